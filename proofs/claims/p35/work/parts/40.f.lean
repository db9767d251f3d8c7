noncomputable section
/-! IsHeIn$Table.at(II)I -/
theorem srt133 : m_srt mc133 = true := by decide +kernel
def F_X10_at_67 (t : Nat) (s : mG) : Option (Int32) :=
  some (ci 0)
set_option maxRecDepth 4000 in
theorem k_X10_at_67 {N : Nat} {xs : Nat → Int32} (t : Nat) (d : Nat) (h_t : isT t) {r : Option Value × mH} {s : mG} {τ : (Int32)} (hJ : F_X10_at_67 t s = some τ) (hC : (fun τ => r = (some (.int τ), (SH, s))) τ) : Rn N xs (d + 0) me133 67 [none, none, none, none, none] [] (SH, s) r := by
  unfold F_X10_at_67 at hJ
  refine Rn_sq srt133 37 1 (pc' := 68) (ls' := [none, none, none, none, none]) (st' := [(.int (ci 0))]) (h1 := (SH, s)) rfl ?_
  rw [← Option.some.inj hJ] at hC
  have hC : r = (some (.int (ci 0)), (SH, s)) := hC
  subst hC
  exact Rn_ret srt133 38 rfl rfl rfl
def F_X10_at_38 (t : Nat) (s : mG) (x3 : Int32) (y0 : Int32) : Option (Int32) :=
  if y0 = 0 then
    F_X10_at_67 t s
  else
    if x3 < 0 then
      F_X10_at_67 t s
    else
      if (cn (m_alen (t + 1))) ≤ x3 then
        F_X10_at_67 t s
      else
        if x3 < 0 ∨ m_alen (t + 1) ≤ x3.toNatClampNeg then none else
        some (s.1 (t + 1) x3.toNatClampNeg)
set_option maxRecDepth 4000 in
theorem k_X10_at_38 {N : Nat} {xs : Nat → Int32} (t : Nat) (d : Nat) (h_t : isT t) {r : Option Value × mH} {s : mG} {x3 : Int32} {y0 : Int32} {τ : (Int32)} (hJ : F_X10_at_38 t s x3 y0 = some τ) (hC : (fun τ => r = (some (.int τ), (SH, s))) τ) : Rn N xs (d + 0) me133 38 [some (.ref t), none, none, some (.int x3), none] [(.int y0)] (SH, s) r := by
  unfold F_X10_at_38 at hJ
  refine Rn_sq srt133 22 3 (pc' := (if y0 = 0 then 67 else 45)) (ls' := [some (.ref t), none, none, some (.int x3), some (.int y0)]) (st' := []) (h1 := (SH, s)) rfl (Rn_if (fun h3 => ?_) (fun h3 => ?_))
  · replace hJ := m_ifp h3 hJ
    exact Rn_weaken (a := [none, none, none, none, none]) (b := [some (.ref t), none, none, some (.int x3), some (.int y0)]) trivial rfl (k_X10_at_67 t d h_t hJ hC)
  · replace hJ := m_ifn h3 hJ
    refine Rn_sq srt133 25 2 (pc' := (if x3 < 0 then 67 else 49)) (ls' := [some (.ref t), none, none, some (.int x3), some (.int y0)]) (st' := []) (h1 := (SH, s)) rfl (Rn_if (fun h4 => ?_) (fun h4 => ?_))
    · replace hJ := m_ifp h4 hJ
      exact Rn_weaken (a := [none, none, none, none, none]) (b := [some (.ref t), none, none, some (.int x3), some (.int y0)]) trivial rfl (k_X10_at_67 t d h_t hJ hC)
    · replace hJ := m_ifn h4 hJ
      refine Rn_sq srt133 27 2 (pc' := 51) (ls' := [some (.ref t), none, none, some (.int x3), some (.int y0)]) (st' := [(.ref t), (.int x3)]) (h1 := (SH, s)) rfl ?_
      refine Rn_ev srt133 29 rfl rfl rfl (op_gfT2 h_t) ?_
      refine Rn_ev srt133 30 rfl rfl rfl (op_alT h_t) ?_
      refine Rn_sq srt133 31 1 (pc' := (if (cn (m_alen (t + 1))) ≤ x3 then 67 else 58)) (ls' := [some (.ref t), none, none, some (.int x3), some (.int y0)]) (st' := []) (h1 := (SH, s)) rfl (Rn_if (fun h5 => ?_) (fun h5 => ?_))
      · replace hJ := m_ifp h5 hJ
        exact Rn_weaken (a := [none, none, none, none, none]) (b := [some (.ref t), none, none, some (.int x3), some (.int y0)]) trivial rfl (k_X10_at_67 t d h_t hJ hC)
      · replace hJ := m_ifn h5 hJ
        refine Rn_sq srt133 32 1 (pc' := 59) (ls' := [some (.ref t), none, none, some (.int x3), some (.int y0)]) (st' := [(.ref t)]) (h1 := (SH, s)) rfl ?_
        refine Rn_ev srt133 33 rfl rfl rfl (op_gfT2 h_t) ?_
        refine Rn_sq srt133 34 1 (pc' := 63) (ls' := [some (.ref t), none, none, some (.int x3), some (.int y0)]) (st' := [(.int x3), (.ref (t + 1))]) (h1 := (SH, s)) rfl ?_
        obtain ⟨h6, hJ⟩ := m_gn hJ
        refine Rn_ev srt133 35 rfl rfl rfl (op_ia h_t.2 h6 (k := x3.toNatClampNeg) rfl) ?_
        refine Rn_sq srt133 36 1 (pc' := 68) (ls' := [some (.ref t), none, none, some (.int x3), some (.int y0)]) (st' := [(.int (s.1 (t + 1) x3.toNatClampNeg))]) (h1 := (SH, s)) rfl ?_
        rw [← Option.some.inj hJ] at hC
        have hC : r = (some (.int (s.1 (t + 1) x3.toNatClampNeg)), (SH, s)) := hC
        subst hC
        exact Rn_ret srt133 38 rfl rfl rfl
def F_X10_at_37 (t : Nat) (s : mG) (x3 : Int32) : Option (Int32) :=
  F_X10_at_38 t s x3 (ci 0)
set_option maxRecDepth 4000 in
theorem k_X10_at_37 {N : Nat} {xs : Nat → Int32} (t : Nat) (d : Nat) (h_t : isT t) {r : Option Value × mH} {s : mG} {x3 : Int32} {τ : (Int32)} (hJ : F_X10_at_37 t s x3 = some τ) (hC : (fun τ => r = (some (.int τ), (SH, s))) τ) : Rn N xs (d + 0) me133 37 [some (.ref t), none, none, some (.int x3), none] [] (SH, s) r := by
  unfold F_X10_at_37 at hJ
  refine Rn_sq srt133 21 1 (pc' := 38) (ls' := [some (.ref t), none, none, some (.int x3), none]) (st' := [(.int (ci 0))]) (h1 := (SH, s)) rfl ?_
  exact (k_X10_at_38 t d h_t hJ hC)
def F_X10_at (t : Nat) (s : mG) (a1 : Int32) (a2 : Int32) : Option (Int32) :=
  let v1 : Int32 := ((a1 * (s.1 t 1)) + a2)
  if a1 < 0 then
    F_X10_at_37 t s v1
  else
    if (s.1 t 3) ≤ a1 then
      F_X10_at_37 t s v1
    else
      if a2 < 0 then
        F_X10_at_37 t s v1
      else
        if (s.1 t 1) ≤ a2 then
          F_X10_at_37 t s v1
        else
          F_X10_at_38 t s v1 (ci 1)
set_option maxRecDepth 4000 in
theorem k_X10_at_r {N : Nat} {xs : Nat → Int32} (t : Nat) (d : Nat) (h_t : isT t) {r : Option Value × mH} {s : mG} {a1 : Int32} {a2 : Int32} {τ : (Int32)} (hJ : F_X10_at t s a1 a2 = some τ) (hC : (fun τ => r = (some (.int τ), (SH, s))) τ) : Rn N xs (d + 0) me133 0 [some (.ref t), some (.int a1), some (.int a2), none, none] [] (SH, s) r := by
  unfold F_X10_at at hJ
  refine Rn_sq srt133 0 2 (pc' := 2) (ls' := [some (.ref t), some (.int a1), some (.int a2), none, none]) (st' := [(.ref t), (.int a1)]) (h1 := (SH, s)) rfl ?_
  refine Rn_ev srt133 2 rfl rfl rfl (op_gfT1 h_t) ?_
  extract_lets +onlyGivenNames v1 at hJ
  refine Rn_sq srt133 3 6 (pc' := (if a1 < 0 then 37 else 13)) (ls' := [some (.ref t), some (.int a1), some (.int a2), some (.int v1), none]) (st' := []) (h1 := (SH, s)) rfl (Rn_if (fun h2 => ?_) (fun h2 => ?_))
  · replace hJ := m_ifp h2 hJ
    exact Rn_weaken (a := [some (.ref t), none, none, some (.int v1), none]) (b := [some (.ref t), some (.int a1), some (.int a2), some (.int v1), none]) (And.intro rfl (And.intro rfl trivial)) rfl (k_X10_at_37 t d h_t hJ hC)
  · replace hJ := m_ifn h2 hJ
    refine Rn_sq srt133 9 2 (pc' := 15) (ls' := [some (.ref t), some (.int a1), some (.int a2), some (.int v1), none]) (st' := [(.ref t), (.int a1)]) (h1 := (SH, s)) rfl ?_
    refine Rn_ev srt133 11 rfl rfl rfl (op_gfT3 h_t) ?_
    refine Rn_sq srt133 12 1 (pc' := (if (s.1 t 3) ≤ a1 then 37 else 21)) (ls' := [some (.ref t), some (.int a1), some (.int a2), some (.int v1), none]) (st' := []) (h1 := (SH, s)) rfl (Rn_if (fun h7 => ?_) (fun h7 => ?_))
    · replace hJ := m_ifp h7 hJ
      exact Rn_weaken (a := [some (.ref t), none, none, some (.int v1), none]) (b := [some (.ref t), some (.int a1), some (.int a2), some (.int v1), none]) (And.intro rfl (And.intro rfl trivial)) rfl (k_X10_at_37 t d h_t hJ hC)
    · replace hJ := m_ifn h7 hJ
      refine Rn_sq srt133 13 2 (pc' := (if a2 < 0 then 37 else 25)) (ls' := [some (.ref t), some (.int a1), some (.int a2), some (.int v1), none]) (st' := []) (h1 := (SH, s)) rfl (Rn_if (fun h8 => ?_) (fun h8 => ?_))
      · replace hJ := m_ifp h8 hJ
        exact Rn_weaken (a := [some (.ref t), none, none, some (.int v1), none]) (b := [some (.ref t), some (.int a1), some (.int a2), some (.int v1), none]) (And.intro rfl (And.intro rfl trivial)) rfl (k_X10_at_37 t d h_t hJ hC)
      · replace hJ := m_ifn h8 hJ
        refine Rn_sq srt133 15 2 (pc' := 27) (ls' := [some (.ref t), some (.int a1), some (.int a2), some (.int v1), none]) (st' := [(.ref t), (.int a2)]) (h1 := (SH, s)) rfl ?_
        refine Rn_ev srt133 17 rfl rfl rfl (op_gfT1 h_t) ?_
        refine Rn_sq srt133 18 1 (pc' := (if (s.1 t 1) ≤ a2 then 37 else 33)) (ls' := [some (.ref t), some (.int a1), some (.int a2), some (.int v1), none]) (st' := []) (h1 := (SH, s)) rfl (Rn_if (fun h9 => ?_) (fun h9 => ?_))
        · replace hJ := m_ifp h9 hJ
          exact Rn_weaken (a := [some (.ref t), none, none, some (.int v1), none]) (b := [some (.ref t), some (.int a1), some (.int a2), some (.int v1), none]) (And.intro rfl (And.intro rfl trivial)) rfl (k_X10_at_37 t d h_t hJ hC)
        · replace hJ := m_ifn h9 hJ
          refine Rn_sq srt133 19 2 (pc' := 38) (ls' := [some (.ref t), some (.int a1), some (.int a2), some (.int v1), none]) (st' := [(.int (ci 1))]) (h1 := (SH, s)) rfl ?_
          exact Rn_weaken (a := [some (.ref t), none, none, some (.int v1), none]) (b := [some (.ref t), some (.int a1), some (.int a2), some (.int v1), none]) (And.intro rfl (And.intro rfl trivial)) rfl (k_X10_at_38 t d h_t hJ hC)
theorem k_X10_at {N : Nat} {xs : Nat → Int32} (t : Nat) (d : Nat) (h_t : isT t) {s : mG} {a1 : Int32} {a2 : Int32} {τ : (Int32)} (hJ : F_X10_at t s a1 a2 = some τ) : Rn N xs (d + 0) me133 0 [some (.ref t), some (.int a1), some (.int a2), none, none] [] (SH, s) (some (.int τ), (SH, s)) := k_X10_at_r t d h_t hJ rfl
/-! IsHeIn$Belief.glanceAt(I)V -/
theorem srt2 : m_srt mc2 = true := by decide +kernel
def C_X0_glanceAt_2 (N : Nat) (xs : Nat → Int32) (d : Nat) (r : Option Value × mH) (C : (mG) → Prop) : ((Int32 × Int32 × mG) ⊕ (mG)) → Prop
  | .inl v => Rn N xs (d + 1) me2 2 [some (.ref 73), some (.int v.1), some (.int v.2.1)] [] (SH, v.2.2) r
  | .inr a => C a
def F_X0_glanceAt_B2 (x1 : Int32) (x2 : Int32) (s : mG) : Option ((Int32 × Int32 × mG) ⊕ (mG)) :=
  if (cn 6) ≤ x2 then
    some (Sum.inr s)
  else
    b1 (F_X10_at 2 s x1 ((ci 5) + x2)) fun v3 =>
    if x2 < 0 ∨ 6 ≤ x2.toNatClampNeg then none else
    let s5 : mG := (mu s.1 74 x2.toNatClampNeg v3, s.2)
    some (Sum.inl (x1, (x2 + ci 1), s5))
set_option maxRecDepth 4000 in
theorem k_X0_glanceAt_B2 {N : Nat} {xs : Nat → Int32} (d : Nat) {r : Option Value × mH} {s : mG} {x1 : Int32} {x2 : Int32} {τ : ((Int32 × Int32 × mG) ⊕ (mG))} (hJ : F_X0_glanceAt_B2 x1 x2 s = some τ) (hC : (C_X0_glanceAt_2 N xs d r (fun τ => r = (none, (SH, τ)))) τ) : Rn N xs (d + 1) me2 2 [some (.ref 73), some (.int x1), some (.int x2)] [] (SH, s) r := by
  unfold F_X0_glanceAt_B2 at hJ
  refine Rn_sq srt2 2 5 (pc' := (if (cn 6) ≤ x2 then 37 else 11)) (ls' := [some (.ref 73), some (.int x1), some (.int x2)]) (st' := []) (h1 := (SH, s)) rfl (Rn_if (fun h1 => ?_) (fun h1 => ?_))
  · replace hJ := m_ifp h1 hJ
    rw [← Option.some.inj hJ] at hC
    have hC : r = (none, (SH, s)) := hC
    subst hC
    exact Rn_ret srt2 21 rfl rfl rfl
  · replace hJ := m_ifn h1 hJ
    refine Rn_sq srt2 7 10 (pc' := 27) (ls' := [some (.ref 73), some (.int x1), some (.int x2)]) (st' := [(.int ((ci 5) + x2)), (.int x1), (.ref 2), (.int x2), (.ref 74)]) (h1 := (SH, s)) rfl ?_
    obtain ⟨v3, h2, hJ⟩ := m_b1 hJ
    refine Rn_call srt2 17 rfl rfl rfl ⟨Nat.le_of_ble_eq_true rfl, Nat.le_of_ble_eq_true rfl, rfl, Nat.le_of_ble_eq_true rfl⟩ (k_X10_at 2 (d) isT_2 h2) (show Rn N xs (d + 1) me2 30 [some (.ref 73), some (.int x1), some (.int x2)] [(.int v3), (.int x2), (.ref 74)] (SH, s) r from ?_)
    obtain ⟨h4, hJ⟩ := m_gn hJ
    extract_lets +onlyGivenNames s5 at hJ
    refine Rn_ev srt2 18 rfl rfl rfl (op_ias sh74 h4 (k := x2.toNatClampNeg) rfl) ?_
    refine Rn_sq srt2 19 2 (pc' := 2) (ls' := [some (.ref 73), some (.int x1), some (.int (x2 + ci 1))]) (st' := []) (h1 := (SH, s5)) rfl ?_
    rw [← Option.some.inj hJ] at hC
    exact hC
def F_X0_glanceAt_L2 (x1 : Int32) (x2 : Int32) (s : mG) : Option (mG) := whl (fun (v : (Int32 × Int32 × mG)) => F_X0_glanceAt_B2 v.1 v.2.1 v.2.2) (x1, x2, s)
theorem k_X0_glanceAt_L2 {N : Nat} {xs : Nat → Int32} (d : Nat) {r : Option Value × mH} {s : mG} {x1 : Int32} {x2 : Int32} {τ : (mG)} (hJ : F_X0_glanceAt_L2 x1 x2 s = some τ) (hC : (fun τ => r = (none, (SH, τ))) τ) : Rn N xs (d + 1) me2 2 [some (.ref 73), some (.int x1), some (.int x2)] [] (SH, s) r :=
  whl_link (P := fun (v : (Int32 × Int32 × mG)) => Rn N xs (d + 1) me2 2 [some (.ref 73), some (.int v.1), some (.int v.2.1)] [] (SH, v.2.2) r) (C := (C_X0_glanceAt_2 N xs d r (fun τ => r = (none, (SH, τ))))) (fun v τ h1 h2 => k_X0_glanceAt_B2 d h1 h2) (fun _ h => h) (fun _ h => h) _ _ hJ hC
def F_X0_glanceAt (a1 : Int32) (s : mG) : Option (mG) :=
  F_X0_glanceAt_L2 a1 (ci 0) s
set_option maxRecDepth 4000 in
theorem k_X0_glanceAt_r {N : Nat} {xs : Nat → Int32} (d : Nat) {r : Option Value × mH} {s : mG} {a1 : Int32} {τ : (mG)} (hJ : F_X0_glanceAt a1 s = some τ) (hC : (fun τ => r = (none, (SH, τ))) τ) : Rn N xs (d + 1) me2 0 [some (.ref 73), some (.int a1), none] [] (SH, s) r := by
  unfold F_X0_glanceAt at hJ
  refine Rn_sq srt2 0 2 (pc' := 2) (ls' := [some (.ref 73), some (.int a1), some (.int (ci 0))]) (st' := []) (h1 := (SH, s)) rfl ?_
  exact (k_X0_glanceAt_L2 d hJ hC)
theorem k_X0_glanceAt {N : Nat} {xs : Nat → Int32} (d : Nat) {s : mG} {a1 : Int32} {τ : (mG)} (hJ : F_X0_glanceAt a1 s = some τ) : Rn N xs (d + 1) me2 0 [some (.ref 73), some (.int a1), none] [] (SH, s) (none, (SH, τ)) := k_X0_glanceAt_r d hJ rfl
/-! IsHeIn$Belief.sureAfter(IIZ)I -/
theorem srt4 : m_srt mc4 = true := by decide +kernel
def F_X0_sureAfter_70 (s : mG) (x1 : Int32) (x8 : Int64) (y0 : Int64) (y1 : Int64) : Option (Int32) :=
  if (lg_cmp (x8 + (y0 * y1)) (cz 0)) = 0 then
    some x1
  else
    if (x8 + (y0 * y1)) = 0 then none else
    some (((cl 1000000) * x8) / (x8 + (y0 * y1))).toInt32
set_option maxRecDepth 4000 in
theorem k_X0_sureAfter_70 {N : Nat} {xs : Nat → Int32} (d : Nat) {r : Option Value × mH} {s : mG} {x1 : Int32} {x8 : Int64} {y0 : Int64} {y1 : Int64} {τ : (Int32)} (hJ : F_X0_sureAfter_70 s x1 x8 y0 y1 = some τ) (hC : (fun τ => r = (some (.int τ), (SH, s))) τ) : Rn N xs (d + 1) me4 70 [none, some (.int x1), none, none, none, none, none, none, some (.long x8), none, none, none] [(.long y1), (.long y0)] (SH, s) r := by
  unfold F_X0_sureAfter_70 at hJ
  refine Rn_sq srt4 38 8 (pc' := (if (lg_cmp (x8 + (y0 * y1)) (cz 0)) = 0 then 83 else 87)) (ls' := [none, some (.int x1), none, none, none, none, none, none, some (.long x8), none, some (.long (y0 * y1)), none]) (st' := []) (h1 := (SH, s)) rfl (Rn_if (fun h7 => ?_) (fun h7 => ?_))
  · replace hJ := m_ifp h7 hJ
    refine Rn_sq srt4 46 2 (pc' := 100) (ls' := [none, some (.int x1), none, none, none, none, none, none, some (.long x8), none, some (.long (y0 * y1)), none]) (st' := [(.int x1)]) (h1 := (SH, s)) rfl ?_
    rw [← Option.some.inj hJ] at hC
    have hC : r = (some (.int x1), (SH, s)) := hC
    subst hC
    exact Rn_ret srt4 56 rfl rfl rfl
  · replace hJ := m_ifn h7 hJ
    refine Rn_sq srt4 48 6 (pc' := 98) (ls' := [none, some (.int x1), none, none, none, none, none, none, some (.long x8), none, some (.long (y0 * y1)), none]) (st' := [(.long (x8 + (y0 * y1))), (.long ((cl 1000000) * x8))]) (h1 := (SH, s)) rfl ?_
    obtain ⟨h8, hJ⟩ := m_gn hJ
    refine Rn_ev srt4 54 rfl rfl rfl (op_ldiv h8) ?_
    refine Rn_sq srt4 55 1 (pc' := 100) (ls' := [none, some (.int x1), none, none, none, none, none, none, some (.long x8), none, some (.long (y0 * y1)), none]) (st' := [(.int (((cl 1000000) * x8) / (x8 + (y0 * y1))).toInt32)]) (h1 := (SH, s)) rfl ?_
    rw [← Option.some.inj hJ] at hC
    have hC : r = (some (.int (((cl 1000000) * x8) / (x8 + (y0 * y1))).toInt32), (SH, s)) := hC
    subst hC
    exact Rn_ret srt4 56 rfl rfl rfl
def F_X0_sureAfter_47 (s : mG) (x1 : Int32) (x3 : Int32) (x6 : Int64) (y0 : Int64) (y1 : Int64) : Option (Int32) :=
  if x3 = 0 then
    F_X0_sureAfter_70 s x1 (y0 * y1) ((ci 1000000) - x1).toInt64 ((cl 1000) - x6)
  else
    F_X0_sureAfter_70 s x1 (y0 * y1) ((ci 1000000) - x1).toInt64 x6
set_option maxRecDepth 4000 in
theorem k_X0_sureAfter_47 {N : Nat} {xs : Nat → Int32} (d : Nat) {r : Option Value × mH} {s : mG} {x1 : Int32} {x3 : Int32} {x6 : Int64} {y0 : Int64} {y1 : Int64} {τ : (Int32)} (hJ : F_X0_sureAfter_47 s x1 x3 x6 y0 y1 = some τ) (hC : (fun τ => r = (some (.int τ), (SH, s))) τ) : Rn N xs (d + 1) me4 47 [none, some (.int x1), none, some (.int x3), none, none, some (.long x6), none, none, none, none, none] [(.long y1), (.long y0)] (SH, s) r := by
  unfold F_X0_sureAfter_47 at hJ
  refine Rn_sq srt4 25 8 (pc' := (if x3 = 0 then 64 else 59)) (ls' := [none, some (.int x1), none, some (.int x3), none, none, some (.long x6), none, some (.long (y0 * y1)), none, none, none]) (st' := [(.long ((ci 1000000) - x1).toInt64)]) (h1 := (SH, s)) rfl (Rn_if (fun h6 => ?_) (fun h6 => ?_))
  · replace hJ := m_ifp h6 hJ
    refine Rn_sq srt4 35 3 (pc' := 70) (ls' := [none, some (.int x1), none, some (.int x3), none, none, some (.long x6), none, some (.long (y0 * y1)), none, none, none]) (st' := [(.long ((cl 1000) - x6)), (.long ((ci 1000000) - x1).toInt64)]) (h1 := (SH, s)) rfl ?_
    exact Rn_weaken (a := [none, some (.int x1), none, none, none, none, none, none, some (.long (y0 * y1)), none, none, none]) (b := [none, some (.int x1), none, some (.int x3), none, none, some (.long x6), none, some (.long (y0 * y1)), none, none, none]) (And.intro rfl (And.intro rfl trivial)) rfl (k_X0_sureAfter_70 d hJ hC)
  · replace hJ := m_ifn h6 hJ
    refine Rn_sq srt4 33 2 (pc' := 70) (ls' := [none, some (.int x1), none, some (.int x3), none, none, some (.long x6), none, some (.long (y0 * y1)), none, none, none]) (st' := [(.long x6), (.long ((ci 1000000) - x1).toInt64)]) (h1 := (SH, s)) rfl ?_
    exact Rn_weaken (a := [none, some (.int x1), none, none, none, none, none, none, some (.long (y0 * y1)), none, none, none]) (b := [none, some (.int x1), none, some (.int x3), none, none, some (.long x6), none, some (.long (y0 * y1)), none, none, none]) (And.intro rfl (And.intro rfl trivial)) rfl (k_X0_sureAfter_70 d hJ hC)
def F_X0_sureAfter (s : mG) (a1 : Int32) (a2 : Int32) (a3 : Int32) : Option (Int32) :=
  b1 (F_X10_at 10 s a2 (ci 0)) fun v2 =>
  b1 (F_X10_at 10 s a2 (ci 1)) fun v4 =>
  if a3 = 0 then
    F_X0_sureAfter_47 s a1 a3 v4.toInt64 a1.toInt64 ((cl 1000) - v2.toInt64)
  else
    F_X0_sureAfter_47 s a1 a3 v4.toInt64 a1.toInt64 v2.toInt64
set_option maxRecDepth 4000 in
theorem k_X0_sureAfter_r {N : Nat} {xs : Nat → Int32} (d : Nat) {r : Option Value × mH} {s : mG} {a1 : Int32} {a2 : Int32} {a3 : Int32} {τ : (Int32)} (hJ : F_X0_sureAfter s a1 a2 a3 = some τ) (hC : (fun τ => r = (some (.int τ), (SH, s))) τ) : Rn N xs (d + 1) me4 0 [some (.ref 73), some (.int a1), some (.int a2), some (.int a3), none, none, none, none, none, none, none, none] [] (SH, s) r := by
  unfold F_X0_sureAfter at hJ
  refine Rn_sq srt4 0 5 (pc' := 9) (ls' := [some (.ref 73), some (.int a1), some (.int a2), some (.int a3), none, none, none, none, none, none, none, none]) (st' := [(.int (ci 0)), (.int a2), (.ref 10)]) (h1 := (SH, s)) rfl ?_
  obtain ⟨v2, h1, hJ⟩ := m_b1 hJ
  refine Rn_call srt4 5 rfl rfl rfl ⟨Nat.le_of_ble_eq_true rfl, Nat.le_of_ble_eq_true rfl, rfl, Nat.le_of_ble_eq_true rfl⟩ (k_X10_at 10 (d) isT_10 h1) (show Rn N xs (d + 1) me4 12 [some (.ref 73), some (.int a1), some (.int a2), some (.int a3), none, none, none, none, none, none, none, none] [(.int v2)] (SH, s) r from ?_)
  refine Rn_sq srt4 6 7 (pc' := 24) (ls' := [some (.ref 73), some (.int a1), some (.int a2), some (.int a3), some (.long v2.toInt64), none, none, none, none, none, none, none]) (st' := [(.int (ci 1)), (.int a2), (.ref 10)]) (h1 := (SH, s)) rfl ?_
  obtain ⟨v4, h3, hJ⟩ := m_b1 hJ
  refine Rn_call srt4 13 rfl rfl rfl ⟨Nat.le_of_ble_eq_true rfl, Nat.le_of_ble_eq_true rfl, rfl, Nat.le_of_ble_eq_true rfl⟩ (k_X10_at 10 (d) isT_10 h3) (show Rn N xs (d + 1) me4 27 [some (.ref 73), some (.int a1), some (.int a2), some (.int a3), some (.long v2.toInt64), none, none, none, none, none, none, none] [(.int v4)] (SH, s) r from ?_)
  refine Rn_sq srt4 14 6 (pc' := (if a3 = 0 then 41 else 36)) (ls' := [some (.ref 73), some (.int a1), some (.int a2), some (.int a3), some (.long v2.toInt64), none, some (.long v4.toInt64), none, none, none, none, none]) (st' := [(.long a1.toInt64)]) (h1 := (SH, s)) rfl (Rn_if (fun h5 => ?_) (fun h5 => ?_))
  · replace hJ := m_ifp h5 hJ
    refine Rn_sq srt4 22 3 (pc' := 47) (ls' := [some (.ref 73), some (.int a1), some (.int a2), some (.int a3), some (.long v2.toInt64), none, some (.long v4.toInt64), none, none, none, none, none]) (st' := [(.long ((cl 1000) - v2.toInt64)), (.long a1.toInt64)]) (h1 := (SH, s)) rfl ?_
    exact Rn_weaken (a := [none, some (.int a1), none, some (.int a3), none, none, some (.long v4.toInt64), none, none, none, none, none]) (b := [some (.ref 73), some (.int a1), some (.int a2), some (.int a3), some (.long v2.toInt64), none, some (.long v4.toInt64), none, none, none, none, none]) (And.intro rfl (And.intro rfl (And.intro rfl trivial))) rfl (k_X0_sureAfter_47 d hJ hC)
  · replace hJ := m_ifn h5 hJ
    refine Rn_sq srt4 20 2 (pc' := 47) (ls' := [some (.ref 73), some (.int a1), some (.int a2), some (.int a3), some (.long v2.toInt64), none, some (.long v4.toInt64), none, none, none, none, none]) (st' := [(.long v2.toInt64), (.long a1.toInt64)]) (h1 := (SH, s)) rfl ?_
    exact Rn_weaken (a := [none, some (.int a1), none, some (.int a3), none, none, some (.long v4.toInt64), none, none, none, none, none]) (b := [some (.ref 73), some (.int a1), some (.int a2), some (.int a3), some (.long v2.toInt64), none, some (.long v4.toInt64), none, none, none, none, none]) (And.intro rfl (And.intro rfl (And.intro rfl trivial))) rfl (k_X0_sureAfter_47 d hJ hC)
theorem k_X0_sureAfter {N : Nat} {xs : Nat → Int32} (d : Nat) {s : mG} {a1 : Int32} {a2 : Int32} {a3 : Int32} {τ : (Int32)} (hJ : F_X0_sureAfter s a1 a2 a3 = some τ) : Rn N xs (d + 1) me4 0 [some (.ref 73), some (.int a1), some (.int a2), some (.int a3), none, none, none, none, none, none, none, none] [] (SH, s) (some (.int τ), (SH, s)) := k_X0_sureAfter_r d hJ rfl
/-! IsHeIn.put([III)V -/
theorem srt190 : m_srt mc190 = true := by decide +kernel
def F_X11_put (a1 : Nat) (a2 : Int32) (a3 : Int32) (s : mG) : Option (mG) :=
  if a2 < 0 then
    some s
  else
    b1 (mal a1) fun n2 =>
    if (cn n2) ≤ a2 then
      some s
    else
      bs SH[a1]? fun n5 =>
        if a2 < 0 ∨ n5 ≤ a2.toNatClampNeg then none else
        let s8 : mG := (mu s.1 a1 a2.toNatClampNeg a3, s.2)
        some s8
set_option maxRecDepth 4000 in
theorem k_X11_put_r {N : Nat} {xs : Nat → Int32} (a1 : Nat) (d : Nat) {r : Option Value × mH} {s : mG} {a2 : Int32} {a3 : Int32} {τ : (mG)} (hJ : F_X11_put a1 a2 a3 s = some τ) (hC : (fun τ => r = (none, (SH, τ))) τ) : Rn N xs (d + 0) me190 0 [some (.ref a1), some (.int a2), some (.int a3)] [] (SH, s) r := by
  unfold F_X11_put at hJ
  refine Rn_sq srt190 0 2 (pc' := 4) (ls' := [some (.ref a1), some (.int a2), some (.int a3)]) (st' := []) (h1 := (SH, s)) rfl ?_
  refine Rn_sq srt190 2 2 (pc' := (if a2 < 0 then 18 else 8)) (ls' := [some (.ref a1), some (.int a2), some (.int a3)]) (st' := []) (h1 := (SH, s)) rfl (Rn_if (fun h1 => ?_) (fun h1 => ?_))
  · replace hJ := m_ifp h1 hJ
    rw [← Option.some.inj hJ] at hC
    have hC : r = (none, (SH, s)) := hC
    subst hC
    exact Rn_ret srt190 12 rfl rfl rfl
  · replace hJ := m_ifn h1 hJ
    refine Rn_sq srt190 4 2 (pc' := 10) (ls' := [some (.ref a1), some (.int a2), some (.int a3)]) (st' := [(.ref a1), (.int a2)]) (h1 := (SH, s)) rfl ?_
    obtain ⟨n2, h3, hJ⟩ := m_b1 hJ
    refine Rn_ev srt190 6 rfl rfl rfl (op_alv h3) ?_
    refine Rn_sq srt190 7 1 (pc' := (if (cn n2) ≤ a2 then 18 else 14)) (ls' := [some (.ref a1), some (.int a2), some (.int a3)]) (st' := []) (h1 := (SH, s)) rfl (Rn_if (fun h4 => ?_) (fun h4 => ?_))
    · replace hJ := m_ifp h4 hJ
      rw [← Option.some.inj hJ] at hC
      have hC : r = (none, (SH, s)) := hC
      subst hC
      exact Rn_ret srt190 12 rfl rfl rfl
    · replace hJ := m_ifn h4 hJ
      refine Rn_sq srt190 8 3 (pc' := 17) (ls' := [some (.ref a1), some (.int a2), some (.int a3)]) (st' := [(.int a3), (.int a2), (.ref a1)]) (h1 := (SH, s)) rfl ?_
      obtain ⟨n5, _, h6, hJ⟩ := m_bs hJ
      obtain ⟨h7, hJ⟩ := m_gn hJ
      extract_lets +onlyGivenNames s8 at hJ
      refine Rn_ev srt190 11 rfl rfl rfl (op_ias h6 h7 (k := a2.toNatClampNeg) rfl) ?_
      rw [← Option.some.inj hJ] at hC
      have hC : r = (none, (SH, s8)) := hC
      subst hC
      exact Rn_ret srt190 12 rfl rfl rfl
theorem k_X11_put {N : Nat} {xs : Nat → Int32} (a1 : Nat) (d : Nat) {s : mG} {a2 : Int32} {a3 : Int32} {τ : (mG)} (hJ : F_X11_put a1 a2 a3 s = some τ) : Rn N xs (d + 0) me190 0 [some (.ref a1), some (.int a2), some (.int a3)] [] (SH, s) (none, (SH, τ)) := k_X11_put_r a1 d hJ rfl
/-! IsHeIn$Law.supposeHour(I)V -/
theorem srt55 : m_srt mc55 = true := by decide +kernel
def F_X3_supposeHour (a1 : Int32) (s : mG) : Option (mG) :=
  b1 (F_X11_put 69 (ci 3) (rm a1 (c8 24)) s) fun s2 =>
  b1 (F_X11_put 69 (ci 4) (a1 / (c8 24)) s2) fun s4 =>
  some s4
set_option maxRecDepth 4000 in
theorem k_X3_supposeHour_r {N : Nat} {xs : Nat → Int32} (d : Nat) {r : Option Value × mH} {s : mG} {a1 : Int32} {τ : (mG)} (hJ : F_X3_supposeHour a1 s = some τ) (hC : (fun τ => r = (none, (SH, τ))) τ) : Rn N xs (d + 1) me55 0 [some (.ref 68), some (.int a1)] [] (SH, s) r := by
  unfold F_X3_supposeHour at hJ
  refine Rn_sq srt55 0 5 (pc' := 8) (ls' := [some (.ref 68), some (.int a1)]) (st' := [(.int (c8 24)), (.int a1), (.int (ci 3)), (.ref 69)]) (h1 := (SH, s)) rfl ?_
  refine Rn_ev srt55 5 rfl rfl rfl (op_irem (by decide)) ?_
  obtain ⟨s2, h1, hJ⟩ := m_b1 hJ
  refine Rn_call srt55 6 rfl rfl rfl ⟨Nat.le_of_ble_eq_true rfl, Nat.le_of_ble_eq_true rfl, rfl, Nat.le_of_ble_eq_true rfl⟩ (k_X11_put 69 (d) h1) (show Rn N xs (d + 1) me55 12 [some (.ref 68), some (.int a1)] [] (SH, s2) r from ?_)
  refine Rn_sq srt55 7 5 (pc' := 20) (ls' := [some (.ref 68), some (.int a1)]) (st' := [(.int (c8 24)), (.int a1), (.int (ci 4)), (.ref 69)]) (h1 := (SH, s2)) rfl ?_
  refine Rn_ev srt55 12 rfl rfl rfl (op_idiv (by decide)) ?_
  obtain ⟨s4, h3, hJ⟩ := m_b1 hJ
  refine Rn_call srt55 13 rfl rfl rfl ⟨Nat.le_of_ble_eq_true rfl, Nat.le_of_ble_eq_true rfl, rfl, Nat.le_of_ble_eq_true rfl⟩ (k_X11_put 69 (d) h3) (show Rn N xs (d + 1) me55 24 [some (.ref 68), some (.int a1)] [] (SH, s4) r from ?_)
  rw [← Option.some.inj hJ] at hC
  have hC : r = (none, (SH, s4)) := hC
  subst hC
  exact Rn_ret srt55 14 rfl rfl rfl
theorem k_X3_supposeHour {N : Nat} {xs : Nat → Int32} (d : Nat) {s : mG} {a1 : Int32} {τ : (mG)} (hJ : F_X3_supposeHour a1 s = some τ) : Rn N xs (d + 1) me55 0 [some (.ref 68), some (.int a1)] [] (SH, s) (none, (SH, τ)) := k_X3_supposeHour_r d hJ rfl
/-! IsHeIn$Law.face(I)V -/
theorem srt54 : m_srt mc54 = true := by decide +kernel
def F_X3_face_107 (x1 : Int32) (y1 : Int32) (y2 : Int32) (s : mG) : Option (mG) :=
  b1 (F_X11_put 69 y1 y2 s) fun s19 =>
  b1 (F_X10_at 2 s19 x1 (ci 4)) fun v21 =>
  b1 (F_X11_put 69 (c8 8) v21 s19) fun s23 =>
  b1 (F_X3_supposeHour (s23.1 1 10) s23) fun s25 =>
  some s25
set_option maxRecDepth 4000 in
theorem k_X3_face_107 {N : Nat} {xs : Nat → Int32} (d : Nat) {r : Option Value × mH} {s : mG} {x1 : Int32} {y1 : Int32} {y2 : Int32} {τ : (mG)} (hJ : F_X3_face_107 x1 y1 y2 s = some τ) (hC : (fun τ => r = (none, (SH, τ))) τ) : Rn N xs (d + 2) me54 107 [some (.ref 68), some (.int x1)] [(.int y2), (.int y1), (.ref 69)] (SH, s) r := by
  unfold F_X3_face_107 at hJ
  obtain ⟨s19, h18, hJ⟩ := m_b1 hJ
  refine Rn_call srt54 53 rfl rfl rfl ⟨Nat.le_of_ble_eq_true rfl, Nat.le_of_ble_eq_true rfl, rfl, Nat.le_of_ble_eq_true rfl⟩ (k_X11_put 69 (d + 1) h18) (show Rn N xs (d + 2) me54 110 [some (.ref 68), some (.int x1)] [] (SH, s19) r from ?_)
  refine Rn_sq srt54 54 8 (pc' := 125) (ls' := [some (.ref 68), some (.int x1)]) (st' := [(.int (ci 4)), (.int x1), (.ref 2), (.int (c8 8)), (.ref 69)]) (h1 := (SH, s19)) rfl ?_
  obtain ⟨v21, h20, hJ⟩ := m_b1 hJ
  refine Rn_call srt54 62 rfl rfl rfl ⟨Nat.le_of_ble_eq_true rfl, Nat.le_of_ble_eq_true rfl, rfl, Nat.le_of_ble_eq_true rfl⟩ (k_X10_at 2 (d + 1) isT_2 h20) (show Rn N xs (d + 2) me54 128 [some (.ref 68), some (.int x1)] [(.int v21), (.int (c8 8)), (.ref 69)] (SH, s19) r from ?_)
  obtain ⟨s23, h22, hJ⟩ := m_b1 hJ
  refine Rn_call srt54 63 rfl rfl rfl ⟨Nat.le_of_ble_eq_true rfl, Nat.le_of_ble_eq_true rfl, rfl, Nat.le_of_ble_eq_true rfl⟩ (k_X11_put 69 (d + 1) h22) (show Rn N xs (d + 2) me54 131 [some (.ref 68), some (.int x1)] [] (SH, s23) r from ?_)
  refine Rn_sq srt54 64 4 (pc' := 139) (ls' := [some (.ref 68), some (.int x1)]) (st' := [(.int (s23.1 1 10)), (.ref 68)]) (h1 := (SH, s23)) rfl ?_
  obtain ⟨s25, h24, hJ⟩ := m_b1 hJ
  refine Rn_call srt54 68 rfl rfl rfl ⟨Nat.le_of_ble_eq_true rfl, Nat.le_of_ble_eq_true rfl, rfl, Nat.le_of_ble_eq_true rfl⟩ (k_X3_supposeHour (d) h24) (show Rn N xs (d + 2) me54 142 [some (.ref 68), some (.int x1)] [] (SH, s25) r from ?_)
  rw [← Option.some.inj hJ] at hC
  have hC : r = (none, (SH, s25)) := hC
  subst hC
  exact Rn_ret srt54 69 rfl rfl rfl
def F_X3_face (a1 : Int32) (s : mG) : Option (mG) :=
  b1 (F_X11_put 69 (ci 0) a1 s) fun s2 =>
  b1 (F_X10_at 2 s2 a1 (ci 0)) fun v4 =>
  b1 (F_X11_put 69 (ci 1) v4 s2) fun s6 =>
  b1 (F_X10_at 2 s6 a1 (ci 1)) fun v8 =>
  b1 (F_X11_put 69 (ci 2) v8 s6) fun s10 =>
  b1 (F_X11_put 69 (ci 5) (s10.1 1 8) s10) fun s12 =>
  b1 (F_X11_put 69 (c8 6) (s12.1 1 9) s12) fun s14 =>
  b1 (F_X10_at 2 s14 a1 (ci 3)) fun v16 =>
  if v16 = (ci (-1)) then
    F_X3_face_107 a1 (c8 7) (ci 0) s14
  else
    F_X3_face_107 a1 (c8 7) (ci 1) s14
set_option maxRecDepth 4000 in
theorem k_X3_face_r {N : Nat} {xs : Nat → Int32} (d : Nat) {r : Option Value × mH} {s : mG} {a1 : Int32} {τ : (mG)} (hJ : F_X3_face a1 s = some τ) (hC : (fun τ => r = (none, (SH, τ))) τ) : Rn N xs (d + 2) me54 0 [some (.ref 68), some (.int a1)] [] (SH, s) r := by
  unfold F_X3_face at hJ
  refine Rn_sq srt54 0 4 (pc' := 6) (ls' := [some (.ref 68), some (.int a1)]) (st' := [(.int a1), (.int (ci 0)), (.ref 69)]) (h1 := (SH, s)) rfl ?_
  obtain ⟨s2, h1, hJ⟩ := m_b1 hJ
  refine Rn_call srt54 4 rfl rfl rfl ⟨Nat.le_of_ble_eq_true rfl, Nat.le_of_ble_eq_true rfl, rfl, Nat.le_of_ble_eq_true rfl⟩ (k_X11_put 69 (d + 1) h1) (show Rn N xs (d + 2) me54 9 [some (.ref 68), some (.int a1)] [] (SH, s2) r from ?_)
  refine Rn_sq srt54 5 8 (pc' := 23) (ls' := [some (.ref 68), some (.int a1)]) (st' := [(.int (ci 0)), (.int a1), (.ref 2), (.int (ci 1)), (.ref 69)]) (h1 := (SH, s2)) rfl ?_
  obtain ⟨v4, h3, hJ⟩ := m_b1 hJ
  refine Rn_call srt54 13 rfl rfl rfl ⟨Nat.le_of_ble_eq_true rfl, Nat.le_of_ble_eq_true rfl, rfl, Nat.le_of_ble_eq_true rfl⟩ (k_X10_at 2 (d + 1) isT_2 h3) (show Rn N xs (d + 2) me54 26 [some (.ref 68), some (.int a1)] [(.int v4), (.int (ci 1)), (.ref 69)] (SH, s2) r from ?_)
  obtain ⟨s6, h5, hJ⟩ := m_b1 hJ
  refine Rn_call srt54 14 rfl rfl rfl ⟨Nat.le_of_ble_eq_true rfl, Nat.le_of_ble_eq_true rfl, rfl, Nat.le_of_ble_eq_true rfl⟩ (k_X11_put 69 (d + 1) h5) (show Rn N xs (d + 2) me54 29 [some (.ref 68), some (.int a1)] [] (SH, s6) r from ?_)
  refine Rn_sq srt54 15 8 (pc' := 43) (ls' := [some (.ref 68), some (.int a1)]) (st' := [(.int (ci 1)), (.int a1), (.ref 2), (.int (ci 2)), (.ref 69)]) (h1 := (SH, s6)) rfl ?_
  obtain ⟨v8, h7, hJ⟩ := m_b1 hJ
  refine Rn_call srt54 23 rfl rfl rfl ⟨Nat.le_of_ble_eq_true rfl, Nat.le_of_ble_eq_true rfl, rfl, Nat.le_of_ble_eq_true rfl⟩ (k_X10_at 2 (d + 1) isT_2 h7) (show Rn N xs (d + 2) me54 46 [some (.ref 68), some (.int a1)] [(.int v8), (.int (ci 2)), (.ref 69)] (SH, s6) r from ?_)
  obtain ⟨s10, h9, hJ⟩ := m_b1 hJ
  refine Rn_call srt54 24 rfl rfl rfl ⟨Nat.le_of_ble_eq_true rfl, Nat.le_of_ble_eq_true rfl, rfl, Nat.le_of_ble_eq_true rfl⟩ (k_X11_put 69 (d + 1) h9) (show Rn N xs (d + 2) me54 49 [some (.ref 68), some (.int a1)] [] (SH, s10) r from ?_)
  refine Rn_sq srt54 25 6 (pc' := 61) (ls' := [some (.ref 68), some (.int a1)]) (st' := [(.int (s10.1 1 8)), (.int (ci 5)), (.ref 69)]) (h1 := (SH, s10)) rfl ?_
  obtain ⟨s12, h11, hJ⟩ := m_b1 hJ
  refine Rn_call srt54 31 rfl rfl rfl ⟨Nat.le_of_ble_eq_true rfl, Nat.le_of_ble_eq_true rfl, rfl, Nat.le_of_ble_eq_true rfl⟩ (k_X11_put 69 (d + 1) h11) (show Rn N xs (d + 2) me54 64 [some (.ref 68), some (.int a1)] [] (SH, s12) r from ?_)
  refine Rn_sq srt54 32 6 (pc' := 77) (ls' := [some (.ref 68), some (.int a1)]) (st' := [(.int (s12.1 1 9)), (.int (c8 6)), (.ref 69)]) (h1 := (SH, s12)) rfl ?_
  obtain ⟨s14, h13, hJ⟩ := m_b1 hJ
  refine Rn_call srt54 38 rfl rfl rfl ⟨Nat.le_of_ble_eq_true rfl, Nat.le_of_ble_eq_true rfl, rfl, Nat.le_of_ble_eq_true rfl⟩ (k_X11_put 69 (d + 1) h13) (show Rn N xs (d + 2) me54 80 [some (.ref 68), some (.int a1)] [] (SH, s14) r from ?_)
  refine Rn_sq srt54 39 8 (pc' := 95) (ls' := [some (.ref 68), some (.int a1)]) (st' := [(.int (ci 3)), (.int a1), (.ref 2), (.int (c8 7)), (.ref 69)]) (h1 := (SH, s14)) rfl ?_
  obtain ⟨v16, h15, hJ⟩ := m_b1 hJ
  refine Rn_call srt54 47 rfl rfl rfl ⟨Nat.le_of_ble_eq_true rfl, Nat.le_of_ble_eq_true rfl, rfl, Nat.le_of_ble_eq_true rfl⟩ (k_X10_at 2 (d + 1) isT_2 h15) (show Rn N xs (d + 2) me54 98 [some (.ref 68), some (.int a1)] [(.int v16), (.int (c8 7)), (.ref 69)] (SH, s14) r from ?_)
  refine Rn_sq srt54 48 2 (pc' := (if v16 = (ci (-1)) then 102 else 106)) (ls' := [some (.ref 68), some (.int a1)]) (st' := [(.int (c8 7)), (.ref 69)]) (h1 := (SH, s14)) rfl (Rn_if (fun h17 => ?_) (fun h17 => ?_))
  · replace hJ := m_ifp h17 hJ
    refine Rn_sq srt54 50 2 (pc' := 107) (ls' := [some (.ref 68), some (.int a1)]) (st' := [(.int (ci 0)), (.int (c8 7)), (.ref 69)]) (h1 := (SH, s14)) rfl ?_
    exact (k_X3_face_107 d hJ hC)
  · replace hJ := m_ifn h17 hJ
    refine Rn_sq srt54 52 1 (pc' := 107) (ls' := [some (.ref 68), some (.int a1)]) (st' := [(.int (ci 1)), (.int (c8 7)), (.ref 69)]) (h1 := (SH, s14)) rfl ?_
    exact (k_X3_face_107 d hJ hC)
theorem k_X3_face {N : Nat} {xs : Nat → Int32} (d : Nat) {s : mG} {a1 : Int32} {τ : (mG)} (hJ : F_X3_face a1 s = some τ) : Rn N xs (d + 2) me54 0 [some (.ref 68), some (.int a1)] [] (SH, s) (none, (SH, τ)) := k_X3_face_r d hJ rfl
/-! IsHeIn$Law.joined(III)I -/
theorem srt59 : m_srt mc59 = true := by decide +kernel
def F_X3_joined_109 (s : mG) : Option (Int32) :=
  some (ci 0)
set_option maxRecDepth 4000 in
theorem k_X3_joined_109 {N : Nat} {xs : Nat → Int32} (d : Nat) {r : Option Value × mH} {s : mG} {τ : (Int32)} (hJ : F_X3_joined_109 s = some τ) (hC : (fun τ => r = (some (.int τ), (SH, s))) τ) : Rn N xs (d + 0) me59 109 [none, none, none] [] (SH, s) r := by
  unfold F_X3_joined_109 at hJ
  refine Rn_sq srt59 43 1 (pc' := 110) (ls' := [none, none, none]) (st' := [(.int (ci 0))]) (h1 := (SH, s)) rfl ?_
  rw [← Option.some.inj hJ] at hC
  have hC : r = (some (.int (ci 0)), (SH, s)) := hC
  subst hC
  exact Rn_ret srt59 44 rfl rfl rfl
def F_X3_joined (s : mG) (a1 : Int32) (a2 : Int32) (a3 : Int32) : Option (Int32) :=
  if a1 = ci 2 then
    some (a2 + a3)
  else
  if a1 = ci 3 then
    some (a2 - a3)
  else
  if a1 = ci 4 then
    some (a2 * a3)
  else
  if a1 = ci 5 then
    F_X3_joined_109 s
  else
  if a1 = ci 6 then
    if a3 ≤ a2 then
      some (ci 0)
    else
      some (ci 1)
  else
  if a1 = ci 7 then
    if a2 = a3 then
      some (ci 1)
    else
      some (ci 0)
  else
  if a1 = ci 8 then
    if a2 ≤ a3 then
      some (ci 0)
    else
      some (ci 1)
  else
  if a1 = ci 9 then
    F_X3_joined_109 s
  else
  if a1 = ci 10 then
    some (a2 &&& a3)
  else
  if a1 = ci 11 then
    some (a2 ||| a3)
  else
  F_X3_joined_109 s
set_option maxRecDepth 4000 in
theorem k_X3_joined_r {N : Nat} {xs : Nat → Int32} (d : Nat) {r : Option Value × mH} {s : mG} {a1 : Int32} {a2 : Int32} {a3 : Int32} {τ : (Int32)} (hJ : F_X3_joined s a1 a2 a3 = some τ) (hC : (fun τ => r = (some (.int τ), (SH, s))) τ) : Rn N xs (d + 0) me59 0 [some (.int a1), some (.int a2), some (.int a3)] [] (SH, s) r := by
  unfold F_X3_joined at hJ
  refine Rn_sq srt59 0 1 (pc' := 1) (ls' := [some (.int a1), some (.int a2), some (.int a3)]) (st' := [(.int a1)]) (h1 := (SH, s)) rfl ?_
  by_cases h1 : a1 = ci 2
  · replace hJ := m_ifp h1 hJ
    refine Rn_ev srt59 1 rfl rfl rfl (op_sw h1 (show _ = some (56, _) from rfl)) ?_
    refine Rn_sq srt59 2 3 (pc' := 59) (ls' := [some (.int a1), some (.int a2), some (.int a3)]) (st' := [(.int (a2 + a3))]) (h1 := (SH, s)) rfl ?_
    rw [← Option.some.inj hJ] at hC
    have hC : r = (some (.int (a2 + a3)), (SH, s)) := hC
    subst hC
    exact Rn_ret srt59 5 rfl rfl rfl
  replace hJ := m_ifn h1 hJ
  by_cases h2 : a1 = ci 3
  · replace hJ := m_ifp h2 hJ
    refine Rn_ev srt59 1 rfl rfl rfl (op_sw h2 (show _ = some (60, _) from rfl)) ?_
    refine Rn_sq srt59 6 3 (pc' := 63) (ls' := [some (.int a1), some (.int a2), some (.int a3)]) (st' := [(.int (a2 - a3))]) (h1 := (SH, s)) rfl ?_
    rw [← Option.some.inj hJ] at hC
    have hC : r = (some (.int (a2 - a3)), (SH, s)) := hC
    subst hC
    exact Rn_ret srt59 9 rfl rfl rfl
  replace hJ := m_ifn h2 hJ
  by_cases h3 : a1 = ci 4
  · replace hJ := m_ifp h3 hJ
    refine Rn_ev srt59 1 rfl rfl rfl (op_sw h3 (show _ = some (64, _) from rfl)) ?_
    refine Rn_sq srt59 10 3 (pc' := 67) (ls' := [some (.int a1), some (.int a2), some (.int a3)]) (st' := [(.int (a2 * a3))]) (h1 := (SH, s)) rfl ?_
    rw [← Option.some.inj hJ] at hC
    have hC : r = (some (.int (a2 * a3)), (SH, s)) := hC
    subst hC
    exact Rn_ret srt59 13 rfl rfl rfl
  replace hJ := m_ifn h3 hJ
  by_cases h4 : a1 = ci 5
  · replace hJ := m_ifp h4 hJ
    refine Rn_ev srt59 1 rfl rfl rfl (op_sw h4 (show _ = some (109, _) from rfl)) ?_
    exact Rn_weaken (a := [none, none, none]) (b := [some (.int a1), some (.int a2), some (.int a3)]) trivial rfl (k_X3_joined_109 d hJ hC)
  replace hJ := m_ifn h4 hJ
  by_cases h5 : a1 = ci 6
  · replace hJ := m_ifp h5 hJ
    refine Rn_ev srt59 1 rfl rfl rfl (op_sw h5 (show _ = some (68, _) from rfl)) ?_
    refine Rn_sq srt59 14 3 (pc' := (if a3 ≤ a2 then 77 else 73)) (ls' := [some (.int a1), some (.int a2), some (.int a3)]) (st' := []) (h1 := (SH, s)) rfl (Rn_if (fun h6 => ?_) (fun h6 => ?_))
    · replace hJ := m_ifp h6 hJ
      refine Rn_sq srt59 19 1 (pc' := 78) (ls' := [some (.int a1), some (.int a2), some (.int a3)]) (st' := [(.int (ci 0))]) (h1 := (SH, s)) rfl ?_
      rw [← Option.some.inj hJ] at hC
      have hC : r = (some (.int (ci 0)), (SH, s)) := hC
      subst hC
      exact Rn_ret srt59 20 rfl rfl rfl
    · replace hJ := m_ifn h6 hJ
      refine Rn_sq srt59 17 2 (pc' := 78) (ls' := [some (.int a1), some (.int a2), some (.int a3)]) (st' := [(.int (ci 1))]) (h1 := (SH, s)) rfl ?_
      rw [← Option.some.inj hJ] at hC
      have hC : r = (some (.int (ci 1)), (SH, s)) := hC
      subst hC
      exact Rn_ret srt59 20 rfl rfl rfl
  replace hJ := m_ifn h5 hJ
  by_cases h7 : a1 = ci 7
  · replace hJ := m_ifp h7 hJ
    refine Rn_ev srt59 1 rfl rfl rfl (op_sw h7 (show _ = some (79, _) from rfl)) ?_
    refine Rn_sq srt59 21 3 (pc' := (if a2 = a3 then 84 else 88)) (ls' := [some (.int a1), some (.int a2), some (.int a3)]) (st' := []) (h1 := (SH, s)) rfl (Rn_if (fun h8 => ?_) (fun h8 => ?_))
    · replace hJ := m_ifp h8 hJ
      refine Rn_sq srt59 24 2 (pc' := 89) (ls' := [some (.int a1), some (.int a2), some (.int a3)]) (st' := [(.int (ci 1))]) (h1 := (SH, s)) rfl ?_
      rw [← Option.some.inj hJ] at hC
      have hC : r = (some (.int (ci 1)), (SH, s)) := hC
      subst hC
      exact Rn_ret srt59 27 rfl rfl rfl
    · replace hJ := m_ifn h8 hJ
      refine Rn_sq srt59 26 1 (pc' := 89) (ls' := [some (.int a1), some (.int a2), some (.int a3)]) (st' := [(.int (ci 0))]) (h1 := (SH, s)) rfl ?_
      rw [← Option.some.inj hJ] at hC
      have hC : r = (some (.int (ci 0)), (SH, s)) := hC
      subst hC
      exact Rn_ret srt59 27 rfl rfl rfl
  replace hJ := m_ifn h7 hJ
  by_cases h9 : a1 = ci 8
  · replace hJ := m_ifp h9 hJ
    refine Rn_ev srt59 1 rfl rfl rfl (op_sw h9 (show _ = some (90, _) from rfl)) ?_
    refine Rn_sq srt59 28 3 (pc' := (if a2 ≤ a3 then 99 else 95)) (ls' := [some (.int a1), some (.int a2), some (.int a3)]) (st' := []) (h1 := (SH, s)) rfl (Rn_if (fun h10 => ?_) (fun h10 => ?_))
    · replace hJ := m_ifp h10 hJ
      refine Rn_sq srt59 33 1 (pc' := 100) (ls' := [some (.int a1), some (.int a2), some (.int a3)]) (st' := [(.int (ci 0))]) (h1 := (SH, s)) rfl ?_
      rw [← Option.some.inj hJ] at hC
      have hC : r = (some (.int (ci 0)), (SH, s)) := hC
      subst hC
      exact Rn_ret srt59 34 rfl rfl rfl
    · replace hJ := m_ifn h10 hJ
      refine Rn_sq srt59 31 2 (pc' := 100) (ls' := [some (.int a1), some (.int a2), some (.int a3)]) (st' := [(.int (ci 1))]) (h1 := (SH, s)) rfl ?_
      rw [← Option.some.inj hJ] at hC
      have hC : r = (some (.int (ci 1)), (SH, s)) := hC
      subst hC
      exact Rn_ret srt59 34 rfl rfl rfl
  replace hJ := m_ifn h9 hJ
  by_cases h11 : a1 = ci 9
  · replace hJ := m_ifp h11 hJ
    refine Rn_ev srt59 1 rfl rfl rfl (op_sw h11 (show _ = some (109, _) from rfl)) ?_
    exact Rn_weaken (a := [none, none, none]) (b := [some (.int a1), some (.int a2), some (.int a3)]) trivial rfl (k_X3_joined_109 d hJ hC)
  replace hJ := m_ifn h11 hJ
  by_cases h12 : a1 = ci 10
  · replace hJ := m_ifp h12 hJ
    refine Rn_ev srt59 1 rfl rfl rfl (op_sw h12 (show _ = some (101, _) from rfl)) ?_
    refine Rn_sq srt59 35 3 (pc' := 104) (ls' := [some (.int a1), some (.int a2), some (.int a3)]) (st' := [(.int (a2 &&& a3))]) (h1 := (SH, s)) rfl ?_
    rw [← Option.some.inj hJ] at hC
    have hC : r = (some (.int (a2 &&& a3)), (SH, s)) := hC
    subst hC
    exact Rn_ret srt59 38 rfl rfl rfl
  replace hJ := m_ifn h12 hJ
  by_cases h13 : a1 = ci 11
  · replace hJ := m_ifp h13 hJ
    refine Rn_ev srt59 1 rfl rfl rfl (op_sw h13 (show _ = some (105, _) from rfl)) ?_
    refine Rn_sq srt59 39 3 (pc' := 108) (ls' := [some (.int a1), some (.int a2), some (.int a3)]) (st' := [(.int (a2 ||| a3))]) (h1 := (SH, s)) rfl ?_
    rw [← Option.some.inj hJ] at hC
    have hC : r = (some (.int (a2 ||| a3)), (SH, s)) := hC
    subst hC
    exact Rn_ret srt59 42 rfl rfl rfl
  replace hJ := m_ifn h13 hJ
  refine Rn_ev srt59 1 rfl rfl rfl (op_swd (tg := 109) (sw_out (by decide) (by decide) (by intro v hv1 hv2; rcases (show v = 2 ∨ v = 3 ∨ v = 4 ∨ v = 5 ∨ v = 6 ∨ v = 7 ∨ v = 8 ∨ v = 9 ∨ v = 10 ∨ v = 11 by omega) with rfl | rfl | rfl | rfl | rfl | rfl | rfl | rfl | rfl | rfl <;> assumption)) rfl) ?_
  exact Rn_weaken (a := [none, none, none]) (b := [some (.int a1), some (.int a2), some (.int a3)]) trivial rfl (k_X3_joined_109 d hJ hC)
theorem k_X3_joined {N : Nat} {xs : Nat → Int32} (d : Nat) {s : mG} {a1 : Int32} {a2 : Int32} {a3 : Int32} {τ : (Int32)} (hJ : F_X3_joined s a1 a2 a3 = some τ) : Rn N xs (d + 0) me59 0 [some (.int a1), some (.int a2), some (.int a3)] [] (SH, s) (some (.int τ), (SH, s)) := k_X3_joined_r d hJ rfl
/-! IsHeIn.cell([II)I -/
theorem srt189 : m_srt mc189 = true := by decide +kernel
def F_X11_cell_20 (a1 : Nat) (s : mG) : Option (Int32) :=
  some (ci 0)
set_option maxRecDepth 4000 in
theorem k_X11_cell_20 {N : Nat} {xs : Nat → Int32} (a1 : Nat) (d : Nat) {r : Option Value × mH} {s : mG} {τ : (Int32)} (hJ : F_X11_cell_20 a1 s = some τ) (hC : (fun τ => r = (some (.int τ), (SH, s))) τ) : Rn N xs (d + 0) me189 20 [none, none] [] (SH, s) r := by
  unfold F_X11_cell_20 at hJ
  refine Rn_sq srt189 12 1 (pc' := 21) (ls' := [none, none]) (st' := [(.int (ci 0))]) (h1 := (SH, s)) rfl ?_
  rw [← Option.some.inj hJ] at hC
  have hC : r = (some (.int (ci 0)), (SH, s)) := hC
  subst hC
  exact Rn_ret srt189 13 rfl rfl rfl
def F_X11_cell (a1 : Nat) (s : mG) (a2 : Int32) : Option (Int32) :=
  if a2 < 0 then
    F_X11_cell_20 a1 s
  else
    b1 (mal a1) fun n2 =>
    if (cn n2) ≤ a2 then
      F_X11_cell_20 a1 s
    else
      b1 (mia s a1 a2) fun v6 =>
      some v6
set_option maxRecDepth 4000 in
theorem k_X11_cell_r {N : Nat} {xs : Nat → Int32} (a1 : Nat) (d : Nat) {r : Option Value × mH} {s : mG} {a2 : Int32} {τ : (Int32)} (hJ : F_X11_cell a1 s a2 = some τ) (hC : (fun τ => r = (some (.int τ), (SH, s))) τ) : Rn N xs (d + 0) me189 0 [some (.ref a1), some (.int a2)] [] (SH, s) r := by
  unfold F_X11_cell at hJ
  refine Rn_sq srt189 0 2 (pc' := 4) (ls' := [some (.ref a1), some (.int a2)]) (st' := []) (h1 := (SH, s)) rfl ?_
  refine Rn_sq srt189 2 2 (pc' := (if a2 < 0 then 20 else 8)) (ls' := [some (.ref a1), some (.int a2)]) (st' := []) (h1 := (SH, s)) rfl (Rn_if (fun h1 => ?_) (fun h1 => ?_))
  · replace hJ := m_ifp h1 hJ
    exact Rn_weaken (a := [none, none]) (b := [some (.ref a1), some (.int a2)]) trivial rfl (k_X11_cell_20 a1 d hJ hC)
  · replace hJ := m_ifn h1 hJ
    refine Rn_sq srt189 4 2 (pc' := 10) (ls' := [some (.ref a1), some (.int a2)]) (st' := [(.ref a1), (.int a2)]) (h1 := (SH, s)) rfl ?_
    obtain ⟨n2, h3, hJ⟩ := m_b1 hJ
    refine Rn_ev srt189 6 rfl rfl rfl (op_alv h3) ?_
    refine Rn_sq srt189 7 1 (pc' := (if (cn n2) ≤ a2 then 20 else 14)) (ls' := [some (.ref a1), some (.int a2)]) (st' := []) (h1 := (SH, s)) rfl (Rn_if (fun h4 => ?_) (fun h4 => ?_))
    · replace hJ := m_ifp h4 hJ
      exact Rn_weaken (a := [none, none]) (b := [some (.ref a1), some (.int a2)]) trivial rfl (k_X11_cell_20 a1 d hJ hC)
    · replace hJ := m_ifn h4 hJ
      refine Rn_sq srt189 8 2 (pc' := 16) (ls' := [some (.ref a1), some (.int a2)]) (st' := [(.int a2), (.ref a1)]) (h1 := (SH, s)) rfl ?_
      obtain ⟨v6, h5, hJ⟩ := m_b1 hJ
      refine Rn_ev srt189 10 rfl rfl rfl (op_iav h5) ?_
      refine Rn_sq srt189 11 1 (pc' := 21) (ls' := [some (.ref a1), some (.int a2)]) (st' := [(.int v6)]) (h1 := (SH, s)) rfl ?_
      rw [← Option.some.inj hJ] at hC
      have hC : r = (some (.int v6), (SH, s)) := hC
      subst hC
      exact Rn_ret srt189 13 rfl rfl rfl
theorem k_X11_cell {N : Nat} {xs : Nat → Int32} (a1 : Nat) (d : Nat) {s : mG} {a2 : Int32} {τ : (Int32)} (hJ : F_X11_cell a1 s a2 = some τ) : Rn N xs (d + 0) me189 0 [some (.ref a1), some (.int a2)] [] (SH, s) (some (.int τ), (SH, s)) := k_X11_cell_r a1 d hJ rfl
/-! IsHeIn$Law.valueOf(II)I -/
theorem srt58 : m_srt mc58 = true := by decide +kernel
def C_X3_valueOf_5 (N : Nat) (xs : Nat → Int32) (d : Nat) (r : Option Value × mH) (C : (Int32 × mG) → Prop) : ((Int32 × Int32 × Int32 × mG) ⊕ (Int32 × mG)) → Prop
  | .inl v => Rn N xs (d + 1) me58 5 [some (.ref 68), none, some (.int v.1), some (.int v.2.1), some (.int v.2.2.1), none, none, none] [] (SH, v.2.2.2) r
  | .inr a => C a
def F_X3_valueOf_229 (x2 : Int32) (x3 : Int32) (x4 : Int32) (s : mG) : Option ((Int32 × Int32 × Int32 × mG) ⊕ (Int32 × mG)) :=
  some (Sum.inl (x2, x3, (x4 + ci 1), s))
set_option maxRecDepth 4000 in
theorem k_X3_valueOf_229 {N : Nat} {xs : Nat → Int32} (d : Nat) {r : Option Value × mH} {s : mG} {x2 : Int32} {x3 : Int32} {x4 : Int32} {τ : ((Int32 × Int32 × Int32 × mG) ⊕ (Int32 × mG))} (hJ : F_X3_valueOf_229 x2 x3 x4 s = some τ) (hC : (C_X3_valueOf_5 N xs d r (fun τ => r = (some (.int τ.1), (SH, τ.2)))) τ) : Rn N xs (d + 1) me58 229 [some (.ref 68), none, some (.int x2), some (.int x3), some (.int x4), none, none, none] [] (SH, s) r := by
  unfold F_X3_valueOf_229 at hJ
  refine Rn_sq srt58 91 2 (pc' := 5) (ls' := [some (.ref 68), none, some (.int x2), some (.int x3), some (.int (x4 + ci 1)), none, none, none]) (st' := []) (h1 := (SH, s)) rfl ?_
  rw [← Option.some.inj hJ] at hC
  exact hC
def F_X3_valueOf_199 (x2 : Int32) (x3 : Int32) (x4 : Int32) (x5 : Int32) (x7 : Int32) (s : mG) : Option ((Int32 × Int32 × Int32 × mG) ⊕ (Int32 × mG)) :=
  b1 (F_X11_cell 70 s ((x3 + ci (-1)) - (ci 1))) fun v20 =>
  b1 (F_X3_joined s x5 v20 x7) fun v22 =>
  b1 (F_X11_put 70 ((x3 + ci (-1)) - (ci 1)) v22 s) fun s24 =>
  F_X3_valueOf_229 x2 (x3 + ci (-1)) x4 s24
set_option maxRecDepth 4000 in
theorem k_X3_valueOf_199 {N : Nat} {xs : Nat → Int32} (d : Nat) {r : Option Value × mH} {s : mG} {x2 : Int32} {x3 : Int32} {x4 : Int32} {x5 : Int32} {x7 : Int32} {τ : ((Int32 × Int32 × Int32 × mG) ⊕ (Int32 × mG))} (hJ : F_X3_valueOf_199 x2 x3 x4 x5 x7 s = some τ) (hC : (C_X3_valueOf_5 N xs d r (fun τ => r = (some (.int τ.1), (SH, τ.2)))) τ) : Rn N xs (d + 1) me58 199 [some (.ref 68), none, some (.int x2), some (.int x3), some (.int x4), some (.int x5), none, some (.int x7)] [] (SH, s) r := by
  unfold F_X3_valueOf_199 at hJ
  refine Rn_sq srt58 75 12 (pc' := 218) (ls' := [some (.ref 68), none, some (.int x2), some (.int (x3 + ci (-1))), some (.int x4), some (.int x5), none, some (.int x7)]) (st' := [(.int ((x3 + ci (-1)) - (ci 1))), (.ref 70), (.int x5), (.int ((x3 + ci (-1)) - (ci 1))), (.ref 70)]) (h1 := (SH, s)) rfl ?_
  obtain ⟨v20, h19, hJ⟩ := m_b1 hJ
  refine Rn_call srt58 87 rfl rfl rfl ⟨Nat.le_of_ble_eq_true rfl, Nat.le_of_ble_eq_true rfl, rfl, Nat.le_of_ble_eq_true rfl⟩ (k_X11_cell 70 (d) h19) (show Rn N xs (d + 1) me58 221 [some (.ref 68), none, some (.int x2), some (.int (x3 + ci (-1))), some (.int x4), some (.int x5), none, some (.int x7)] [(.int v20), (.int x5), (.int ((x3 + ci (-1)) - (ci 1))), (.ref 70)] (SH, s) r from ?_)
  refine Rn_sq srt58 88 1 (pc' := 223) (ls' := [some (.ref 68), none, some (.int x2), some (.int (x3 + ci (-1))), some (.int x4), some (.int x5), none, some (.int x7)]) (st' := [(.int x7), (.int v20), (.int x5), (.int ((x3 + ci (-1)) - (ci 1))), (.ref 70)]) (h1 := (SH, s)) rfl ?_
  obtain ⟨v22, h21, hJ⟩ := m_b1 hJ
  refine Rn_call srt58 89 rfl rfl rfl ⟨Nat.le_of_ble_eq_true rfl, Nat.le_of_ble_eq_true rfl, rfl, Nat.le_of_ble_eq_true rfl⟩ (k_X3_joined (d) h21) (show Rn N xs (d + 1) me58 226 [some (.ref 68), none, some (.int x2), some (.int (x3 + ci (-1))), some (.int x4), some (.int x5), none, some (.int x7)] [(.int v22), (.int ((x3 + ci (-1)) - (ci 1))), (.ref 70)] (SH, s) r from ?_)
  obtain ⟨s24, h23, hJ⟩ := m_b1 hJ
  refine Rn_call srt58 90 rfl rfl rfl ⟨Nat.le_of_ble_eq_true rfl, Nat.le_of_ble_eq_true rfl, rfl, Nat.le_of_ble_eq_true rfl⟩ (k_X11_put 70 (d) h23) (show Rn N xs (d + 1) me58 229 [some (.ref 68), none, some (.int x2), some (.int (x3 + ci (-1))), some (.int x4), some (.int x5), none, some (.int x7)] [] (SH, s24) r from ?_)
  exact Rn_weaken (a := [some (.ref 68), none, some (.int x2), some (.int (x3 + ci (-1))), some (.int x4), none, none, none]) (b := [some (.ref 68), none, some (.int x2), some (.int (x3 + ci (-1))), some (.int x4), some (.int x5), none, some (.int x7)]) (And.intro rfl (And.intro rfl (And.intro rfl (And.intro rfl trivial)))) rfl (k_X3_valueOf_229 d hJ hC)
def F_X3_valueOf_176 (x2 : Int32) (x3 : Int32) (x4 : Int32) (y1 : Int32) (y2 : Int32) (s : mG) : Option ((Int32 × Int32 × Int32 × mG) ⊕ (Int32 × mG)) :=
  b1 (F_X11_put 70 y1 y2 s) fun s30 =>
  F_X3_valueOf_229 x2 x3 x4 s30
set_option maxRecDepth 4000 in
theorem k_X3_valueOf_176 {N : Nat} {xs : Nat → Int32} (d : Nat) {r : Option Value × mH} {s : mG} {x2 : Int32} {x3 : Int32} {x4 : Int32} {y1 : Int32} {y2 : Int32} {τ : ((Int32 × Int32 × Int32 × mG) ⊕ (Int32 × mG))} (hJ : F_X3_valueOf_176 x2 x3 x4 y1 y2 s = some τ) (hC : (C_X3_valueOf_5 N xs d r (fun τ => r = (some (.int τ.1), (SH, τ.2)))) τ) : Rn N xs (d + 1) me58 176 [some (.ref 68), none, some (.int x2), some (.int x3), some (.int x4), none, none, none] [(.int y2), (.int y1), (.ref 70)] (SH, s) r := by
  unfold F_X3_valueOf_176 at hJ
  obtain ⟨s30, h29, hJ⟩ := m_b1 hJ
  refine Rn_call srt58 63 rfl rfl rfl ⟨Nat.le_of_ble_eq_true rfl, Nat.le_of_ble_eq_true rfl, rfl, Nat.le_of_ble_eq_true rfl⟩ (k_X11_put 70 (d) h29) (show Rn N xs (d + 1) me58 179 [some (.ref 68), none, some (.int x2), some (.int x3), some (.int x4), none, none, none] [] (SH, s30) r from ?_)
  refine Rn_sq srt58 64 1 (pc' := 229) (ls' := [some (.ref 68), none, some (.int x2), some (.int x3), some (.int x4), none, none, none]) (st' := []) (h1 := (SH, s30)) rfl ?_
  exact (k_X3_valueOf_229 d hJ hC)
def F_X3_valueOf_B5 (x2 : Int32) (x3 : Int32) (x4 : Int32) (s : mG) : Option ((Int32 × Int32 × Int32 × mG) ⊕ (Int32 × mG)) :=
  if x2 ≤ x4 then
    b1 (F_X11_cell 70 s (x3 - (ci 1))) fun v3 =>
    some (Sum.inr (v3, s))
  else
    b1 (F_X10_at 8 s x4 (ci 0)) fun v5 =>
    b1 (F_X10_at 8 s x4 (ci 0)) fun v7 =>
    b1 (F_X11_cell 70 s (x3 - (ci 1))) fun v9 =>
    if (v5 / (c16 10000)) = ci 0 then
      b1 (F_X11_put 70 x3 (rm v7 (c16 10000)) s) fun s12 =>
      F_X3_valueOf_229 x2 (x3 + ci 1) x4 s12
    else
    if (v5 / (c16 10000)) = ci 1 then
      b1 (F_X11_cell 69 s (rm v7 (c16 10000))) fun v15 =>
      b1 (F_X11_put 70 x3 v15 s) fun s17 =>
      F_X3_valueOf_229 x2 (x3 + ci 1) x4 s17
    else
    if (v5 / (c16 10000)) = ci 2 then
      F_X3_valueOf_199 x2 x3 x4 (v5 / (c16 10000)) v9 s
    else
    if (v5 / (c16 10000)) = ci 3 then
      F_X3_valueOf_199 x2 x3 x4 (v5 / (c16 10000)) v9 s
    else
    if (v5 / (c16 10000)) = ci 4 then
      F_X3_valueOf_199 x2 x3 x4 (v5 / (c16 10000)) v9 s
    else
    if (v5 / (c16 10000)) = ci 5 then
      if (rm v7 (c16 10000)) = 0 then
        F_X3_valueOf_176 x2 x3 x4 (x3 - (ci 1)) (ci 0) s
      else
        if (rm v7 (c16 10000)) = 0 then none else
        F_X3_valueOf_176 x2 x3 x4 (x3 - (ci 1)) (v9 / (rm v7 (c16 10000))) s
    else
    if (v5 / (c16 10000)) = ci 6 then
      F_X3_valueOf_199 x2 x3 x4 (v5 / (c16 10000)) v9 s
    else
    if (v5 / (c16 10000)) = ci 7 then
      F_X3_valueOf_199 x2 x3 x4 (v5 / (c16 10000)) v9 s
    else
    if (v5 / (c16 10000)) = ci 8 then
      F_X3_valueOf_199 x2 x3 x4 (v5 / (c16 10000)) v9 s
    else
    if (v5 / (c16 10000)) = ci 9 then
      b1 (F_X11_put 70 (x3 - (ci 1)) ((ci 1) - v9) s) fun s37 =>
      F_X3_valueOf_229 x2 x3 x4 s37
    else
    F_X3_valueOf_199 x2 x3 x4 (v5 / (c16 10000)) v9 s
set_option maxRecDepth 4000 in
theorem k_X3_valueOf_B5 {N : Nat} {xs : Nat → Int32} (d : Nat) {r : Option Value × mH} {s : mG} {x2 : Int32} {x3 : Int32} {x4 : Int32} {τ : ((Int32 × Int32 × Int32 × mG) ⊕ (Int32 × mG))} (hJ : F_X3_valueOf_B5 x2 x3 x4 s = some τ) (hC : (C_X3_valueOf_5 N xs d r (fun τ => r = (some (.int τ.1), (SH, τ.2)))) τ) : Rn N xs (d + 1) me58 5 [some (.ref 68), none, some (.int x2), some (.int x3), some (.int x4), none, none, none] [] (SH, s) r := by
  unfold F_X3_valueOf_B5 at hJ
  refine Rn_sq srt58 4 3 (pc' := (if x2 ≤ x4 then 235 else 11)) (ls' := [some (.ref 68), none, some (.int x2), some (.int x3), some (.int x4), none, none, none]) (st' := []) (h1 := (SH, s)) rfl (Rn_if (fun h1 => ?_) (fun h1 => ?_))
  · replace hJ := m_ifp h1 hJ
    refine Rn_sq srt58 93 5 (pc' := 242) (ls' := [some (.ref 68), none, some (.int x2), some (.int x3), some (.int x4), none, none, none]) (st' := [(.int (x3 - (ci 1))), (.ref 70)]) (h1 := (SH, s)) rfl ?_
    obtain ⟨v3, h2, hJ⟩ := m_b1 hJ
    refine Rn_call srt58 98 rfl rfl rfl ⟨Nat.le_of_ble_eq_true rfl, Nat.le_of_ble_eq_true rfl, rfl, Nat.le_of_ble_eq_true rfl⟩ (k_X11_cell 70 (d) h2) (show Rn N xs (d + 1) me58 245 [some (.ref 68), none, some (.int x2), some (.int x3), some (.int x4), none, none, none] [(.int v3)] (SH, s) r from ?_)
    rw [← Option.some.inj hJ] at hC
    have hC : r = (some (.int v3), (SH, s)) := hC
    subst hC
    exact Rn_ret srt58 99 rfl rfl rfl
  · replace hJ := m_ifn h1 hJ
    refine Rn_sq srt58 7 5 (pc' := 21) (ls' := [some (.ref 68), none, some (.int x2), some (.int x3), some (.int x4), none, none, none]) (st' := [(.int (ci 0)), (.int x4), (.ref 8)]) (h1 := (SH, s)) rfl ?_
    obtain ⟨v5, h4, hJ⟩ := m_b1 hJ
    refine Rn_call srt58 12 rfl rfl rfl ⟨Nat.le_of_ble_eq_true rfl, Nat.le_of_ble_eq_true rfl, rfl, Nat.le_of_ble_eq_true rfl⟩ (k_X10_at 8 (d) isT_8 h4) (show Rn N xs (d + 1) me58 24 [some (.ref 68), none, some (.int x2), some (.int x3), some (.int x4), none, none, none] [(.int v5)] (SH, s) r from ?_)
    refine Rn_sq srt58 13 1 (pc' := 27) (ls' := [some (.ref 68), none, some (.int x2), some (.int x3), some (.int x4), none, none, none]) (st' := [(.int (c16 10000)), (.int v5)]) (h1 := (SH, s)) rfl ?_
    refine Rn_ev srt58 14 rfl rfl rfl (op_idiv (by decide)) ?_
    refine Rn_sq srt58 15 6 (pc' := 40) (ls' := [some (.ref 68), none, some (.int x2), some (.int x3), some (.int x4), some (.int (v5 / (c16 10000))), none, none]) (st' := [(.int (ci 0)), (.int x4), (.ref 8)]) (h1 := (SH, s)) rfl ?_
    obtain ⟨v7, h6, hJ⟩ := m_b1 hJ
    refine Rn_call srt58 21 rfl rfl rfl ⟨Nat.le_of_ble_eq_true rfl, Nat.le_of_ble_eq_true rfl, rfl, Nat.le_of_ble_eq_true rfl⟩ (k_X10_at 8 (d) isT_8 h6) (show Rn N xs (d + 1) me58 43 [some (.ref 68), none, some (.int x2), some (.int x3), some (.int x4), some (.int (v5 / (c16 10000))), none, none] [(.int v7)] (SH, s) r from ?_)
    refine Rn_sq srt58 22 1 (pc' := 46) (ls' := [some (.ref 68), none, some (.int x2), some (.int x3), some (.int x4), some (.int (v5 / (c16 10000))), none, none]) (st' := [(.int (c16 10000)), (.int v7)]) (h1 := (SH, s)) rfl ?_
    refine Rn_ev srt58 23 rfl rfl rfl (op_irem (by decide)) ?_
    refine Rn_sq srt58 24 6 (pc' := 56) (ls' := [some (.ref 68), none, some (.int x2), some (.int x3), some (.int x4), some (.int (v5 / (c16 10000))), some (.int (rm v7 (c16 10000))), none]) (st' := [(.int (x3 - (ci 1))), (.ref 70)]) (h1 := (SH, s)) rfl ?_
    obtain ⟨v9, h8, hJ⟩ := m_b1 hJ
    refine Rn_call srt58 30 rfl rfl rfl ⟨Nat.le_of_ble_eq_true rfl, Nat.le_of_ble_eq_true rfl, rfl, Nat.le_of_ble_eq_true rfl⟩ (k_X11_cell 70 (d) h8) (show Rn N xs (d + 1) me58 59 [some (.ref 68), none, some (.int x2), some (.int x3), some (.int x4), some (.int (v5 / (c16 10000))), some (.int (rm v7 (c16 10000))), none] [(.int v9)] (SH, s) r from ?_)
    refine Rn_sq srt58 31 2 (pc' := 63) (ls' := [some (.ref 68), none, some (.int x2), some (.int x3), some (.int x4), some (.int (v5 / (c16 10000))), some (.int (rm v7 (c16 10000))), some (.int v9)]) (st' := [(.int (v5 / (c16 10000)))]) (h1 := (SH, s)) rfl ?_
    by_cases h10 : (v5 / (c16 10000)) = ci 0
    · replace hJ := m_ifp h10 hJ
      refine Rn_ev srt58 33 rfl rfl rfl (op_sw h10 (show _ = some (116, _) from rfl)) ?_
      refine Rn_sq srt58 34 4 (pc' := 123) (ls' := [some (.ref 68), none, some (.int x2), some (.int x3), some (.int x4), some (.int (v5 / (c16 10000))), some (.int (rm v7 (c16 10000))), some (.int v9)]) (st' := [(.int (rm v7 (c16 10000))), (.int x3), (.ref 70)]) (h1 := (SH, s)) rfl ?_
      obtain ⟨s12, h11, hJ⟩ := m_b1 hJ
      refine Rn_call srt58 38 rfl rfl rfl ⟨Nat.le_of_ble_eq_true rfl, Nat.le_of_ble_eq_true rfl, rfl, Nat.le_of_ble_eq_true rfl⟩ (k_X11_put 70 (d) h11) (show Rn N xs (d + 1) me58 126 [some (.ref 68), none, some (.int x2), some (.int x3), some (.int x4), some (.int (v5 / (c16 10000))), some (.int (rm v7 (c16 10000))), some (.int v9)] [] (SH, s12) r from ?_)
      refine Rn_sq srt58 39 2 (pc' := 229) (ls' := [some (.ref 68), none, some (.int x2), some (.int (x3 + ci 1)), some (.int x4), some (.int (v5 / (c16 10000))), some (.int (rm v7 (c16 10000))), some (.int v9)]) (st' := []) (h1 := (SH, s12)) rfl ?_
      exact Rn_weaken (a := [some (.ref 68), none, some (.int x2), some (.int (x3 + ci 1)), some (.int x4), none, none, none]) (b := [some (.ref 68), none, some (.int x2), some (.int (x3 + ci 1)), some (.int x4), some (.int (v5 / (c16 10000))), some (.int (rm v7 (c16 10000))), some (.int v9)]) (And.intro rfl (And.intro rfl (And.intro rfl (And.intro rfl trivial)))) rfl (k_X3_valueOf_229 d hJ hC)
    replace hJ := m_ifn h10 hJ
    by_cases h13 : (v5 / (c16 10000)) = ci 1
    · replace hJ := m_ifp h13 hJ
      refine Rn_ev srt58 33 rfl rfl rfl (op_sw h13 (show _ = some (132, _) from rfl)) ?_
      refine Rn_sq srt58 41 6 (pc' := 143) (ls' := [some (.ref 68), none, some (.int x2), some (.int x3), some (.int x4), some (.int (v5 / (c16 10000))), some (.int (rm v7 (c16 10000))), some (.int v9)]) (st' := [(.int (rm v7 (c16 10000))), (.ref 69), (.int x3), (.ref 70)]) (h1 := (SH, s)) rfl ?_
      obtain ⟨v15, h14, hJ⟩ := m_b1 hJ
      refine Rn_call srt58 47 rfl rfl rfl ⟨Nat.le_of_ble_eq_true rfl, Nat.le_of_ble_eq_true rfl, rfl, Nat.le_of_ble_eq_true rfl⟩ (k_X11_cell 69 (d) h14) (show Rn N xs (d + 1) me58 146 [some (.ref 68), none, some (.int x2), some (.int x3), some (.int x4), some (.int (v5 / (c16 10000))), some (.int (rm v7 (c16 10000))), some (.int v9)] [(.int v15), (.int x3), (.ref 70)] (SH, s) r from ?_)
      obtain ⟨s17, h16, hJ⟩ := m_b1 hJ
      refine Rn_call srt58 48 rfl rfl rfl ⟨Nat.le_of_ble_eq_true rfl, Nat.le_of_ble_eq_true rfl, rfl, Nat.le_of_ble_eq_true rfl⟩ (k_X11_put 70 (d) h16) (show Rn N xs (d + 1) me58 149 [some (.ref 68), none, some (.int x2), some (.int x3), some (.int x4), some (.int (v5 / (c16 10000))), some (.int (rm v7 (c16 10000))), some (.int v9)] [] (SH, s17) r from ?_)
      refine Rn_sq srt58 49 2 (pc' := 229) (ls' := [some (.ref 68), none, some (.int x2), some (.int (x3 + ci 1)), some (.int x4), some (.int (v5 / (c16 10000))), some (.int (rm v7 (c16 10000))), some (.int v9)]) (st' := []) (h1 := (SH, s17)) rfl ?_
      exact Rn_weaken (a := [some (.ref 68), none, some (.int x2), some (.int (x3 + ci 1)), some (.int x4), none, none, none]) (b := [some (.ref 68), none, some (.int x2), some (.int (x3 + ci 1)), some (.int x4), some (.int (v5 / (c16 10000))), some (.int (rm v7 (c16 10000))), some (.int v9)]) (And.intro rfl (And.intro rfl (And.intro rfl (And.intro rfl trivial)))) rfl (k_X3_valueOf_229 d hJ hC)
    replace hJ := m_ifn h13 hJ
    by_cases h18 : (v5 / (c16 10000)) = ci 2
    · replace hJ := m_ifp h18 hJ
      refine Rn_ev srt58 33 rfl rfl rfl (op_sw h18 (show _ = some (199, _) from rfl)) ?_
      exact Rn_weaken (a := [some (.ref 68), none, some (.int x2), some (.int x3), some (.int x4), some (.int (v5 / (c16 10000))), none, some (.int v9)]) (b := [some (.ref 68), none, some (.int x2), some (.int x3), some (.int x4), some (.int (v5 / (c16 10000))), some (.int (rm v7 (c16 10000))), some (.int v9)]) (And.intro rfl (And.intro rfl (And.intro rfl (And.intro rfl (And.intro rfl (And.intro rfl trivial)))))) rfl (k_X3_valueOf_199 d hJ hC)
    replace hJ := m_ifn h18 hJ
    by_cases h25 : (v5 / (c16 10000)) = ci 3
    · replace hJ := m_ifp h25 hJ
      refine Rn_ev srt58 33 rfl rfl rfl (op_sw h25 (show _ = some (199, _) from rfl)) ?_
      exact Rn_weaken (a := [some (.ref 68), none, some (.int x2), some (.int x3), some (.int x4), some (.int (v5 / (c16 10000))), none, some (.int v9)]) (b := [some (.ref 68), none, some (.int x2), some (.int x3), some (.int x4), some (.int (v5 / (c16 10000))), some (.int (rm v7 (c16 10000))), some (.int v9)]) (And.intro rfl (And.intro rfl (And.intro rfl (And.intro rfl (And.intro rfl (And.intro rfl trivial)))))) rfl (k_X3_valueOf_199 d hJ hC)
    replace hJ := m_ifn h25 hJ
    by_cases h26 : (v5 / (c16 10000)) = ci 4
    · replace hJ := m_ifp h26 hJ
      refine Rn_ev srt58 33 rfl rfl rfl (op_sw h26 (show _ = some (199, _) from rfl)) ?_
      exact Rn_weaken (a := [some (.ref 68), none, some (.int x2), some (.int x3), some (.int x4), some (.int (v5 / (c16 10000))), none, some (.int v9)]) (b := [some (.ref 68), none, some (.int x2), some (.int x3), some (.int x4), some (.int (v5 / (c16 10000))), some (.int (rm v7 (c16 10000))), some (.int v9)]) (And.intro rfl (And.intro rfl (And.intro rfl (And.intro rfl (And.intro rfl (And.intro rfl trivial)))))) rfl (k_X3_valueOf_199 d hJ hC)
    replace hJ := m_ifn h26 hJ
    by_cases h27 : (v5 / (c16 10000)) = ci 5
    · replace hJ := m_ifp h27 hJ
      refine Rn_ev srt58 33 rfl rfl rfl (op_sw h27 (show _ = some (155, _) from rfl)) ?_
      refine Rn_sq srt58 51 7 (pc' := (if (rm v7 (c16 10000)) = 0 then 167 else 171)) (ls' := [some (.ref 68), none, some (.int x2), some (.int x3), some (.int x4), some (.int (v5 / (c16 10000))), some (.int (rm v7 (c16 10000))), some (.int v9)]) (st' := [(.int (x3 - (ci 1))), (.ref 70)]) (h1 := (SH, s)) rfl (Rn_if (fun h28 => ?_) (fun h28 => ?_))
      · replace hJ := m_ifp h28 hJ
        refine Rn_sq srt58 58 2 (pc' := 176) (ls' := [some (.ref 68), none, some (.int x2), some (.int x3), some (.int x4), some (.int (v5 / (c16 10000))), some (.int (rm v7 (c16 10000))), some (.int v9)]) (st' := [(.int (ci 0)), (.int (x3 - (ci 1))), (.ref 70)]) (h1 := (SH, s)) rfl ?_
        exact Rn_weaken (a := [some (.ref 68), none, some (.int x2), some (.int x3), some (.int x4), none, none, none]) (b := [some (.ref 68), none, some (.int x2), some (.int x3), some (.int x4), some (.int (v5 / (c16 10000))), some (.int (rm v7 (c16 10000))), some (.int v9)]) (And.intro rfl (And.intro rfl (And.intro rfl (And.intro rfl trivial)))) rfl (k_X3_valueOf_176 d hJ hC)
      · replace hJ := m_ifn h28 hJ
        refine Rn_sq srt58 60 2 (pc' := 175) (ls' := [some (.ref 68), none, some (.int x2), some (.int x3), some (.int x4), some (.int (v5 / (c16 10000))), some (.int (rm v7 (c16 10000))), some (.int v9)]) (st' := [(.int (rm v7 (c16 10000))), (.int v9), (.int (x3 - (ci 1))), (.ref 70)]) (h1 := (SH, s)) rfl ?_
        obtain ⟨h31, hJ⟩ := m_gn hJ
        refine Rn_ev srt58 62 rfl rfl rfl (op_idiv h31) ?_
        exact Rn_weaken (a := [some (.ref 68), none, some (.int x2), some (.int x3), some (.int x4), none, none, none]) (b := [some (.ref 68), none, some (.int x2), some (.int x3), some (.int x4), some (.int (v5 / (c16 10000))), some (.int (rm v7 (c16 10000))), some (.int v9)]) (And.intro rfl (And.intro rfl (And.intro rfl (And.intro rfl trivial)))) rfl (k_X3_valueOf_176 d hJ hC)
    replace hJ := m_ifn h27 hJ
    by_cases h32 : (v5 / (c16 10000)) = ci 6
    · replace hJ := m_ifp h32 hJ
      refine Rn_ev srt58 33 rfl rfl rfl (op_sw h32 (show _ = some (199, _) from rfl)) ?_
      exact Rn_weaken (a := [some (.ref 68), none, some (.int x2), some (.int x3), some (.int x4), some (.int (v5 / (c16 10000))), none, some (.int v9)]) (b := [some (.ref 68), none, some (.int x2), some (.int x3), some (.int x4), some (.int (v5 / (c16 10000))), some (.int (rm v7 (c16 10000))), some (.int v9)]) (And.intro rfl (And.intro rfl (And.intro rfl (And.intro rfl (And.intro rfl (And.intro rfl trivial)))))) rfl (k_X3_valueOf_199 d hJ hC)
    replace hJ := m_ifn h32 hJ
    by_cases h33 : (v5 / (c16 10000)) = ci 7
    · replace hJ := m_ifp h33 hJ
      refine Rn_ev srt58 33 rfl rfl rfl (op_sw h33 (show _ = some (199, _) from rfl)) ?_
      exact Rn_weaken (a := [some (.ref 68), none, some (.int x2), some (.int x3), some (.int x4), some (.int (v5 / (c16 10000))), none, some (.int v9)]) (b := [some (.ref 68), none, some (.int x2), some (.int x3), some (.int x4), some (.int (v5 / (c16 10000))), some (.int (rm v7 (c16 10000))), some (.int v9)]) (And.intro rfl (And.intro rfl (And.intro rfl (And.intro rfl (And.intro rfl (And.intro rfl trivial)))))) rfl (k_X3_valueOf_199 d hJ hC)
    replace hJ := m_ifn h33 hJ
    by_cases h34 : (v5 / (c16 10000)) = ci 8
    · replace hJ := m_ifp h34 hJ
      refine Rn_ev srt58 33 rfl rfl rfl (op_sw h34 (show _ = some (199, _) from rfl)) ?_
      exact Rn_weaken (a := [some (.ref 68), none, some (.int x2), some (.int x3), some (.int x4), some (.int (v5 / (c16 10000))), none, some (.int v9)]) (b := [some (.ref 68), none, some (.int x2), some (.int x3), some (.int x4), some (.int (v5 / (c16 10000))), some (.int (rm v7 (c16 10000))), some (.int v9)]) (And.intro rfl (And.intro rfl (And.intro rfl (And.intro rfl (And.intro rfl (And.intro rfl trivial)))))) rfl (k_X3_valueOf_199 d hJ hC)
    replace hJ := m_ifn h34 hJ
    by_cases h35 : (v5 / (c16 10000)) = ci 9
    · replace hJ := m_ifp h35 hJ
      refine Rn_ev srt58 33 rfl rfl rfl (op_sw h35 (show _ = some (182, _) from rfl)) ?_
      refine Rn_sq srt58 65 8 (pc' := 193) (ls' := [some (.ref 68), none, some (.int x2), some (.int x3), some (.int x4), some (.int (v5 / (c16 10000))), some (.int (rm v7 (c16 10000))), some (.int v9)]) (st' := [(.int ((ci 1) - v9)), (.int (x3 - (ci 1))), (.ref 70)]) (h1 := (SH, s)) rfl ?_
      obtain ⟨s37, h36, hJ⟩ := m_b1 hJ
      refine Rn_call srt58 73 rfl rfl rfl ⟨Nat.le_of_ble_eq_true rfl, Nat.le_of_ble_eq_true rfl, rfl, Nat.le_of_ble_eq_true rfl⟩ (k_X11_put 70 (d) h36) (show Rn N xs (d + 1) me58 196 [some (.ref 68), none, some (.int x2), some (.int x3), some (.int x4), some (.int (v5 / (c16 10000))), some (.int (rm v7 (c16 10000))), some (.int v9)] [] (SH, s37) r from ?_)
      refine Rn_sq srt58 74 1 (pc' := 229) (ls' := [some (.ref 68), none, some (.int x2), some (.int x3), some (.int x4), some (.int (v5 / (c16 10000))), some (.int (rm v7 (c16 10000))), some (.int v9)]) (st' := []) (h1 := (SH, s37)) rfl ?_
      exact Rn_weaken (a := [some (.ref 68), none, some (.int x2), some (.int x3), some (.int x4), none, none, none]) (b := [some (.ref 68), none, some (.int x2), some (.int x3), some (.int x4), some (.int (v5 / (c16 10000))), some (.int (rm v7 (c16 10000))), some (.int v9)]) (And.intro rfl (And.intro rfl (And.intro rfl (And.intro rfl trivial)))) rfl (k_X3_valueOf_229 d hJ hC)
    replace hJ := m_ifn h35 hJ
    refine Rn_ev srt58 33 rfl rfl rfl (op_swd (tg := 199) (sw_out (by decide) (by decide) (by intro v hv1 hv2; rcases (show v = 0 ∨ v = 1 ∨ v = 2 ∨ v = 3 ∨ v = 4 ∨ v = 5 ∨ v = 6 ∨ v = 7 ∨ v = 8 ∨ v = 9 by omega) with rfl | rfl | rfl | rfl | rfl | rfl | rfl | rfl | rfl | rfl <;> assumption)) rfl) ?_
    exact Rn_weaken (a := [some (.ref 68), none, some (.int x2), some (.int x3), some (.int x4), some (.int (v5 / (c16 10000))), none, some (.int v9)]) (b := [some (.ref 68), none, some (.int x2), some (.int x3), some (.int x4), some (.int (v5 / (c16 10000))), some (.int (rm v7 (c16 10000))), some (.int v9)]) (And.intro rfl (And.intro rfl (And.intro rfl (And.intro rfl (And.intro rfl (And.intro rfl trivial)))))) rfl (k_X3_valueOf_199 d hJ hC)
def F_X3_valueOf_L5 (x2 : Int32) (x3 : Int32) (x4 : Int32) (s : mG) : Option (Int32 × mG) := whl (fun (v : (Int32 × Int32 × Int32 × mG)) => F_X3_valueOf_B5 v.1 v.2.1 v.2.2.1 v.2.2.2) (x2, x3, x4, s)
theorem k_X3_valueOf_L5 {N : Nat} {xs : Nat → Int32} (d : Nat) {r : Option Value × mH} {s : mG} {x2 : Int32} {x3 : Int32} {x4 : Int32} {τ : (Int32 × mG)} (hJ : F_X3_valueOf_L5 x2 x3 x4 s = some τ) (hC : (fun τ => r = (some (.int τ.1), (SH, τ.2))) τ) : Rn N xs (d + 1) me58 5 [some (.ref 68), none, some (.int x2), some (.int x3), some (.int x4), none, none, none] [] (SH, s) r :=
  whl_link (P := fun (v : (Int32 × Int32 × Int32 × mG)) => Rn N xs (d + 1) me58 5 [some (.ref 68), none, some (.int v.1), some (.int v.2.1), some (.int v.2.2.1), none, none, none] [] (SH, v.2.2.2) r) (C := (C_X3_valueOf_5 N xs d r (fun τ => r = (some (.int τ.1), (SH, τ.2))))) (fun v τ h1 h2 => k_X3_valueOf_B5 d h1 h2) (fun _ h => h) (fun _ h => h) _ _ hJ hC
def F_X3_valueOf (a1 : Int32) (a2 : Int32) (s : mG) : Option (Int32 × mG) :=
  F_X3_valueOf_L5 a2 (ci 0) a1 s
set_option maxRecDepth 4000 in
theorem k_X3_valueOf_r {N : Nat} {xs : Nat → Int32} (d : Nat) {r : Option Value × mH} {s : mG} {a1 : Int32} {a2 : Int32} {τ : (Int32 × mG)} (hJ : F_X3_valueOf a1 a2 s = some τ) (hC : (fun τ => r = (some (.int τ.1), (SH, τ.2))) τ) : Rn N xs (d + 1) me58 0 [some (.ref 68), some (.int a1), some (.int a2), none, none, none, none, none] [] (SH, s) r := by
  unfold F_X3_valueOf at hJ
  refine Rn_sq srt58 0 4 (pc' := 5) (ls' := [some (.ref 68), some (.int a1), some (.int a2), some (.int (ci 0)), some (.int a1), none, none, none]) (st' := []) (h1 := (SH, s)) rfl ?_
  exact Rn_weaken (a := [some (.ref 68), none, some (.int a2), some (.int (ci 0)), some (.int a1), none, none, none]) (b := [some (.ref 68), some (.int a1), some (.int a2), some (.int (ci 0)), some (.int a1), none, none, none]) (And.intro rfl (And.intro rfl (And.intro rfl (And.intro rfl trivial)))) rfl (k_X3_valueOf_L5 d hJ hC)
theorem k_X3_valueOf {N : Nat} {xs : Nat → Int32} (d : Nat) {s : mG} {a1 : Int32} {a2 : Int32} {τ : (Int32 × mG)} (hJ : F_X3_valueOf a1 a2 s = some τ) : Rn N xs (d + 1) me58 0 [some (.ref 68), some (.int a1), some (.int a2), none, none, none, none, none] [] (SH, s) (some (.int τ.1), (SH, τ.2)) := k_X3_valueOf_r d hJ rfl
/-! IsHeIn$Law.tells(I)I -/
theorem srt57 : m_srt mc57 = true := by decide +kernel
def C_X3_tells_2 (N : Nat) (xs : Nat → Int32) (d : Nat) (r : Option Value × mH) (C : (Int32 × mG) → Prop) : ((Int32 × Int32 × mG) ⊕ (Int32 × mG)) → Prop
  | .inl v => Rn N xs (d + 2) me57 2 [some (.ref 68), some (.int v.1), some (.int v.2.1), none, none, none] [] (SH, v.2.2) r
  | .inr a => C a
def F_X3_tells_115 (x1 : Int32) (x2 : Int32) (s : mG) : Option ((Int32 × Int32 × mG) ⊕ (Int32 × mG)) :=
  some (Sum.inl (x1, (x2 + ci 1), s))
set_option maxRecDepth 4000 in
theorem k_X3_tells_115 {N : Nat} {xs : Nat → Int32} (d : Nat) {r : Option Value × mH} {s : mG} {x1 : Int32} {x2 : Int32} {τ : ((Int32 × Int32 × mG) ⊕ (Int32 × mG))} (hJ : F_X3_tells_115 x1 x2 s = some τ) (hC : (C_X3_tells_2 N xs d r (fun τ => r = (some (.int τ.1), (SH, τ.2)))) τ) : Rn N xs (d + 2) me57 115 [some (.ref 68), some (.int x1), some (.int x2), none, none, none] [] (SH, s) r := by
  unfold F_X3_tells_115 at hJ
  refine Rn_sq srt57 58 2 (pc' := 2) (ls' := [some (.ref 68), some (.int x1), some (.int (x2 + ci 1)), none, none, none]) (st' := []) (h1 := (SH, s)) rfl ?_
  rw [← Option.some.inj hJ] at hC
  exact hC
def F_X3_tells_87 (x2 : Int32) (x3 : Int32) (s : mG) : Option (Int32 × mG) :=
  b1 (F_X10_at 6 s x2 (ci 1)) fun v18 =>
  b2 (F_X3_valueOf v18 x3 s) fun v21 s20 =>
  let v22 : Int32 := (imax (ci 0) (imin v21 (c16 1000)))
  some (v22, s20)
set_option maxRecDepth 4000 in
theorem k_X3_tells_87 {N : Nat} {xs : Nat → Int32} (d : Nat) {r : Option Value × mH} {s : mG} {x2 : Int32} {x3 : Int32} {τ : (Int32 × mG)} (hJ : F_X3_tells_87 x2 x3 s = some τ) (hC : (fun τ => r = (some (.int τ.1), (SH, τ.2))) τ) : Rn N xs (d + 2) me57 87 [some (.ref 68), none, some (.int x2), some (.int x3), none, none] [] (SH, s) r := by
  unfold F_X3_tells_87 at hJ
  refine Rn_sq srt57 44 7 (pc' := 98) (ls' := [some (.ref 68), none, some (.int x2), some (.int x3), none, none]) (st' := [(.int (ci 1)), (.int x2), (.ref 6), (.ref 68), (.int (ci 0))]) (h1 := (SH, s)) rfl ?_
  obtain ⟨v18, h17, hJ⟩ := m_b1 hJ
  refine Rn_call srt57 51 rfl rfl rfl ⟨Nat.le_of_ble_eq_true rfl, Nat.le_of_ble_eq_true rfl, rfl, Nat.le_of_ble_eq_true rfl⟩ (k_X10_at 6 (d + 1) isT_6 h17) (show Rn N xs (d + 2) me57 101 [some (.ref 68), none, some (.int x2), some (.int x3), none, none] [(.int v18), (.ref 68), (.int (ci 0))] (SH, s) r from ?_)
  refine Rn_sq srt57 52 1 (pc' := 102) (ls' := [some (.ref 68), none, some (.int x2), some (.int x3), none, none]) (st' := [(.int x3), (.int v18), (.ref 68), (.int (ci 0))]) (h1 := (SH, s)) rfl ?_
  obtain ⟨v21, s20, h19, hJ⟩ := m_b2 hJ
  refine Rn_call srt57 53 rfl rfl rfl ⟨Nat.le_of_ble_eq_true rfl, Nat.le_of_ble_eq_true rfl, rfl, Nat.le_of_ble_eq_true rfl⟩ (k_X3_valueOf (d) h19) (show Rn N xs (d + 2) me57 105 [some (.ref 68), none, some (.int x2), some (.int x3), none, none] [(.int v21), (.int (ci 0))] (SH, s20) r from ?_)
  refine Rn_sq srt57 54 3 (pc' := 114) (ls' := [some (.ref 68), none, some (.int x2), some (.int x3), none, none]) (st' := [(.int (imax (ci 0) (imin v21 (c16 1000))))]) (h1 := (SH, s20)) rfl ?_
  extract_lets +onlyGivenNames v22 at hJ
  rw [← Option.some.inj hJ] at hC
  have hC : r = (some (.int (imax (ci 0) (imin v21 (c16 1000)))), (SH, s20)) := hC
  subst hC
  exact Rn_ret srt57 57 rfl rfl rfl
def F_X3_tells_64 (x1 : Int32) (x2 : Int32) (x3 : Int32) (x4 : Int32) (y0 : Int32) (s : mG) : Option ((Int32 × Int32 × mG) ⊕ (Int32 × mG)) :=
  if y0 = 0 then
    F_X3_tells_115 x1 x2 s
  else
    if x3 = x4 then
      b1 (F_X3_tells_87 x2 x3 s) fun τ => some (Sum.inr τ)
    else
      b2 (F_X3_valueOf x3 x4 s) fun v25 s24 =>
      if v25 = 0 then
        F_X3_tells_115 x1 x2 s24
      else
        b1 (F_X3_tells_87 x2 x3 s24) fun τ => some (Sum.inr τ)
set_option maxRecDepth 4000 in
theorem k_X3_tells_64 {N : Nat} {xs : Nat → Int32} (d : Nat) {r : Option Value × mH} {s : mG} {x1 : Int32} {x2 : Int32} {x3 : Int32} {x4 : Int32} {y0 : Int32} {τ : ((Int32 × Int32 × mG) ⊕ (Int32 × mG))} (hJ : F_X3_tells_64 x1 x2 x3 x4 y0 s = some τ) (hC : (C_X3_tells_2 N xs d r (fun τ => r = (some (.int τ.1), (SH, τ.2)))) τ) : Rn N xs (d + 2) me57 64 [some (.ref 68), some (.int x1), some (.int x2), some (.int x3), some (.int x4), none] [(.int y0)] (SH, s) r := by
  unfold F_X3_tells_64 at hJ
  refine Rn_sq srt57 33 3 (pc' := (if y0 = 0 then 115 else 71)) (ls' := [some (.ref 68), some (.int x1), some (.int x2), some (.int x3), some (.int x4), some (.int y0)]) (st' := []) (h1 := (SH, s)) rfl (Rn_if (fun h15 => ?_) (fun h15 => ?_))
  · replace hJ := m_ifp h15 hJ
    exact Rn_weaken (a := [some (.ref 68), some (.int x1), some (.int x2), none, none, none]) (b := [some (.ref 68), some (.int x1), some (.int x2), some (.int x3), some (.int x4), some (.int y0)]) (And.intro rfl (And.intro rfl (And.intro rfl trivial))) rfl (k_X3_tells_115 d hJ hC)
  · replace hJ := m_ifn h15 hJ
    refine Rn_sq srt57 36 3 (pc' := (if x3 = x4 then 87 else 77)) (ls' := [some (.ref 68), some (.int x1), some (.int x2), some (.int x3), some (.int x4), some (.int y0)]) (st' := []) (h1 := (SH, s)) rfl (Rn_if (fun h16 => ?_) (fun h16 => ?_))
    · replace hJ := m_ifp h16 hJ
      obtain ⟨τ1, hJ1, hJ⟩ := m_b1 hJ
      rw [← Option.some.inj hJ] at hC
      exact Rn_weaken (a := [some (.ref 68), none, some (.int x2), some (.int x3), none, none]) (b := [some (.ref 68), some (.int x1), some (.int x2), some (.int x3), some (.int x4), some (.int y0)]) (And.intro rfl (And.intro rfl (And.intro rfl trivial))) rfl (k_X3_tells_87 d hJ1 hC)
    · replace hJ := m_ifn h16 hJ
      refine Rn_sq srt57 39 3 (pc' := 81) (ls' := [some (.ref 68), some (.int x1), some (.int x2), some (.int x3), some (.int x4), some (.int y0)]) (st' := [(.int x4), (.int x3), (.ref 68)]) (h1 := (SH, s)) rfl ?_
      obtain ⟨v25, s24, h23, hJ⟩ := m_b2 hJ
      refine Rn_call srt57 42 rfl rfl rfl ⟨Nat.le_of_ble_eq_true rfl, Nat.le_of_ble_eq_true rfl, rfl, Nat.le_of_ble_eq_true rfl⟩ (k_X3_valueOf (d) h23) (show Rn N xs (d + 2) me57 84 [some (.ref 68), some (.int x1), some (.int x2), some (.int x3), some (.int x4), some (.int y0)] [(.int v25)] (SH, s24) r from ?_)
      refine Rn_sq srt57 43 1 (pc' := (if v25 = 0 then 115 else 87)) (ls' := [some (.ref 68), some (.int x1), some (.int x2), some (.int x3), some (.int x4), some (.int y0)]) (st' := []) (h1 := (SH, s24)) rfl (Rn_if (fun h26 => ?_) (fun h26 => ?_))
      · replace hJ := m_ifp h26 hJ
        exact Rn_weaken (a := [some (.ref 68), some (.int x1), some (.int x2), none, none, none]) (b := [some (.ref 68), some (.int x1), some (.int x2), some (.int x3), some (.int x4), some (.int y0)]) (And.intro rfl (And.intro rfl (And.intro rfl trivial))) rfl (k_X3_tells_115 d hJ hC)
      · replace hJ := m_ifn h26 hJ
        obtain ⟨τ1, hJ1, hJ⟩ := m_b1 hJ
        rw [← Option.some.inj hJ] at hC
        exact Rn_weaken (a := [some (.ref 68), none, some (.int x2), some (.int x3), none, none]) (b := [some (.ref 68), some (.int x1), some (.int x2), some (.int x3), some (.int x4), some (.int y0)]) (And.intro rfl (And.intro rfl (And.intro rfl trivial))) rfl (k_X3_tells_87 d hJ1 hC)
def F_X3_tells_B2 (x1 : Int32) (x2 : Int32) (s : mG) : Option ((Int32 × Int32 × mG) ⊕ (Int32 × mG)) :=
  if (s.1 6 3) ≤ x2 then
    if x1 = (ci 5) then
      b1 (F_X11_cell 69 s (c8 7)) fun v4 =>
      if v4 = 0 then
        some (Sum.inr ((c16 900), s))
      else
        some (Sum.inr ((c8 100), s))
    else
      b1 (F_X11_cell 1000001 s x1) fun v7 =>
      some (Sum.inr (v7, s))
  else
    b1 (F_X10_at 6 s x2 (ci 2)) fun v9 =>
    b1 (F_X10_at 6 s x2 (ci 3)) fun v11 =>
    b1 (F_X10_at 6 s x2 (ci 0)) fun v13 =>
    if v13 = x1 then
      F_X3_tells_64 x1 x2 v9 v11 (ci 1) s
    else
      F_X3_tells_64 x1 x2 v9 v11 (ci 0) s
set_option maxRecDepth 4000 in
theorem k_X3_tells_B2 {N : Nat} {xs : Nat → Int32} (d : Nat) {r : Option Value × mH} {s : mG} {x1 : Int32} {x2 : Int32} {τ : ((Int32 × Int32 × mG) ⊕ (Int32 × mG))} (hJ : F_X3_tells_B2 x1 x2 s = some τ) (hC : (C_X3_tells_2 N xs d r (fun τ => r = (some (.int τ.1), (SH, τ.2)))) τ) : Rn N xs (d + 2) me57 2 [some (.ref 68), some (.int x1), some (.int x2), none, none, none] [] (SH, s) r := by
  unfold F_X3_tells_B2 at hJ
  refine Rn_sq srt57 2 6 (pc' := (if (s.1 6 3) ≤ x2 then 121 else 16)) (ls' := [some (.ref 68), some (.int x1), some (.int x2), none, none, none]) (st' := []) (h1 := (SH, s)) rfl (Rn_if (fun h1 => ?_) (fun h1 => ?_))
  · replace hJ := m_ifp h1 hJ
    refine Rn_sq srt57 60 3 (pc' := (if x1 = (ci 5) then 126 else 147)) (ls' := [some (.ref 68), some (.int x1), some (.int x2), none, none, none]) (st' := []) (h1 := (SH, s)) rfl (Rn_if (fun h2 => ?_) (fun h2 => ?_))
    · replace hJ := m_ifp h2 hJ
      refine Rn_sq srt57 63 3 (pc' := 132) (ls' := [some (.ref 68), some (.int x1), some (.int x2), none, none, none]) (st' := [(.int (c8 7)), (.ref 69)]) (h1 := (SH, s)) rfl ?_
      obtain ⟨v4, h3, hJ⟩ := m_b1 hJ
      refine Rn_call srt57 66 rfl rfl rfl ⟨Nat.le_of_ble_eq_true rfl, Nat.le_of_ble_eq_true rfl, rfl, Nat.le_of_ble_eq_true rfl⟩ (k_X11_cell 69 (d + 1) h3) (show Rn N xs (d + 2) me57 135 [some (.ref 68), some (.int x1), some (.int x2), none, none, none] [(.int v4)] (SH, s) r from ?_)
      refine Rn_sq srt57 67 1 (pc' := (if v4 = 0 then 138 else 144)) (ls' := [some (.ref 68), some (.int x1), some (.int x2), none, none, none]) (st' := []) (h1 := (SH, s)) rfl (Rn_if (fun h5 => ?_) (fun h5 => ?_))
      · replace hJ := m_ifp h5 hJ
        refine Rn_sq srt57 68 2 (pc' := 146) (ls' := [some (.ref 68), some (.int x1), some (.int x2), none, none, none]) (st' := [(.int (c16 900))]) (h1 := (SH, s)) rfl ?_
        rw [← Option.some.inj hJ] at hC
        have hC : r = (some (.int (c16 900)), (SH, s)) := hC
        subst hC
        exact Rn_ret srt57 71 rfl rfl rfl
      · replace hJ := m_ifn h5 hJ
        refine Rn_sq srt57 70 1 (pc' := 146) (ls' := [some (.ref 68), some (.int x1), some (.int x2), none, none, none]) (st' := [(.int (c8 100))]) (h1 := (SH, s)) rfl ?_
        rw [← Option.some.inj hJ] at hC
        have hC : r = (some (.int (c8 100)), (SH, s)) := hC
        subst hC
        exact Rn_ret srt57 71 rfl rfl rfl
    · replace hJ := m_ifn h2 hJ
      refine Rn_sq srt57 72 2 (pc' := 151) (ls' := [some (.ref 68), some (.int x1), some (.int x2), none, none, none]) (st' := [(.int x1), (.ref 1000001)]) (h1 := (SH, s)) rfl ?_
      obtain ⟨v7, h6, hJ⟩ := m_b1 hJ
      refine Rn_call srt57 74 rfl rfl rfl ⟨Nat.le_of_ble_eq_true rfl, Nat.le_of_ble_eq_true rfl, rfl, Nat.le_of_ble_eq_true rfl⟩ (k_X11_cell 1000001 (d + 1) h6) (show Rn N xs (d + 2) me57 154 [some (.ref 68), some (.int x1), some (.int x2), none, none, none] [(.int v7)] (SH, s) r from ?_)
      rw [← Option.some.inj hJ] at hC
      have hC : r = (some (.int v7), (SH, s)) := hC
      subst hC
      exact Rn_ret srt57 75 rfl rfl rfl
  · replace hJ := m_ifn h1 hJ
    refine Rn_sq srt57 8 5 (pc' := 25) (ls' := [some (.ref 68), some (.int x1), some (.int x2), none, none, none]) (st' := [(.int (ci 2)), (.int x2), (.ref 6)]) (h1 := (SH, s)) rfl ?_
    obtain ⟨v9, h8, hJ⟩ := m_b1 hJ
    refine Rn_call srt57 13 rfl rfl rfl ⟨Nat.le_of_ble_eq_true rfl, Nat.le_of_ble_eq_true rfl, rfl, Nat.le_of_ble_eq_true rfl⟩ (k_X10_at 6 (d + 1) isT_6 h8) (show Rn N xs (d + 2) me57 28 [some (.ref 68), some (.int x1), some (.int x2), none, none, none] [(.int v9)] (SH, s) r from ?_)
    refine Rn_sq srt57 14 6 (pc' := 38) (ls' := [some (.ref 68), some (.int x1), some (.int x2), some (.int v9), none, none]) (st' := [(.int (ci 3)), (.int x2), (.ref 6)]) (h1 := (SH, s)) rfl ?_
    obtain ⟨v11, h10, hJ⟩ := m_b1 hJ
    refine Rn_call srt57 20 rfl rfl rfl ⟨Nat.le_of_ble_eq_true rfl, Nat.le_of_ble_eq_true rfl, rfl, Nat.le_of_ble_eq_true rfl⟩ (k_X10_at 6 (d + 1) isT_6 h10) (show Rn N xs (d + 2) me57 41 [some (.ref 68), some (.int x1), some (.int x2), some (.int v9), none, none] [(.int v11)] (SH, s) r from ?_)
    refine Rn_sq srt57 21 6 (pc' := 52) (ls' := [some (.ref 68), some (.int x1), some (.int x2), some (.int v9), some (.int v11), none]) (st' := [(.int (ci 0)), (.int x2), (.ref 6)]) (h1 := (SH, s)) rfl ?_
    obtain ⟨v13, h12, hJ⟩ := m_b1 hJ
    refine Rn_call srt57 27 rfl rfl rfl ⟨Nat.le_of_ble_eq_true rfl, Nat.le_of_ble_eq_true rfl, rfl, Nat.le_of_ble_eq_true rfl⟩ (k_X10_at 6 (d + 1) isT_6 h12) (show Rn N xs (d + 2) me57 55 [some (.ref 68), some (.int x1), some (.int x2), some (.int v9), some (.int v11), none] [(.int v13)] (SH, s) r from ?_)
    refine Rn_sq srt57 28 2 (pc' := (if v13 = x1 then 59 else 63)) (ls' := [some (.ref 68), some (.int x1), some (.int x2), some (.int v9), some (.int v11), none]) (st' := []) (h1 := (SH, s)) rfl (Rn_if (fun h14 => ?_) (fun h14 => ?_))
    · replace hJ := m_ifp h14 hJ
      refine Rn_sq srt57 30 2 (pc' := 64) (ls' := [some (.ref 68), some (.int x1), some (.int x2), some (.int v9), some (.int v11), none]) (st' := [(.int (ci 1))]) (h1 := (SH, s)) rfl ?_
      exact (k_X3_tells_64 d hJ hC)
    · replace hJ := m_ifn h14 hJ
      refine Rn_sq srt57 32 1 (pc' := 64) (ls' := [some (.ref 68), some (.int x1), some (.int x2), some (.int v9), some (.int v11), none]) (st' := [(.int (ci 0))]) (h1 := (SH, s)) rfl ?_
      exact (k_X3_tells_64 d hJ hC)
def F_X3_tells_L2 (x1 : Int32) (x2 : Int32) (s : mG) : Option (Int32 × mG) := whl (fun (v : (Int32 × Int32 × mG)) => F_X3_tells_B2 v.1 v.2.1 v.2.2) (x1, x2, s)
theorem k_X3_tells_L2 {N : Nat} {xs : Nat → Int32} (d : Nat) {r : Option Value × mH} {s : mG} {x1 : Int32} {x2 : Int32} {τ : (Int32 × mG)} (hJ : F_X3_tells_L2 x1 x2 s = some τ) (hC : (fun τ => r = (some (.int τ.1), (SH, τ.2))) τ) : Rn N xs (d + 2) me57 2 [some (.ref 68), some (.int x1), some (.int x2), none, none, none] [] (SH, s) r :=
  whl_link (P := fun (v : (Int32 × Int32 × mG)) => Rn N xs (d + 2) me57 2 [some (.ref 68), some (.int v.1), some (.int v.2.1), none, none, none] [] (SH, v.2.2) r) (C := (C_X3_tells_2 N xs d r (fun τ => r = (some (.int τ.1), (SH, τ.2))))) (fun v τ h1 h2 => k_X3_tells_B2 d h1 h2) (fun _ h => h) (fun _ h => h) _ _ hJ hC
def F_X3_tells (a1 : Int32) (s : mG) : Option (Int32 × mG) :=
  F_X3_tells_L2 a1 (ci 0) s
set_option maxRecDepth 4000 in
theorem k_X3_tells_r {N : Nat} {xs : Nat → Int32} (d : Nat) {r : Option Value × mH} {s : mG} {a1 : Int32} {τ : (Int32 × mG)} (hJ : F_X3_tells a1 s = some τ) (hC : (fun τ => r = (some (.int τ.1), (SH, τ.2))) τ) : Rn N xs (d + 2) me57 0 [some (.ref 68), some (.int a1), none, none, none, none] [] (SH, s) r := by
  unfold F_X3_tells at hJ
  refine Rn_sq srt57 0 2 (pc' := 2) (ls' := [some (.ref 68), some (.int a1), some (.int (ci 0)), none, none, none]) (st' := []) (h1 := (SH, s)) rfl ?_
  exact (k_X3_tells_L2 d hJ hC)
theorem k_X3_tells {N : Nat} {xs : Nat → Int32} (d : Nat) {s : mG} {a1 : Int32} {τ : (Int32 × mG)} (hJ : F_X3_tells a1 s = some τ) : Rn N xs (d + 2) me57 0 [some (.ref 68), some (.int a1), none, none, none, none] [] (SH, s) (some (.int τ.1), (SH, τ.2)) := k_X3_tells_r d hJ rfl
/-! IsHeIn$Belief.sureByGlance(I)I -/
theorem srt3 : m_srt mc3 = true := by decide +kernel
def C_X0_sureByGlance_23 (N : Nat) (xs : Nat → Int32) (d : Nat) (r : Option Value × mH) (C : (Int32 × mG) → Prop) : ((Int32 × Int32 × mG) ⊕ (Int32 × mG)) → Prop
  | .inl v => Rn N xs (d + 3) me3 23 [some (.ref 73), none, some (.int v.1), some (.int v.2.1), none] [] (SH, v.2.2) r
  | .inr a => C a
def F_X0_sureByGlance_74 (x3 : Int32) (y0 : Int32) (s : mG) : Option ((Int32 × Int32 × mG) ⊕ (Int32 × mG)) :=
  some (Sum.inl (y0, (x3 + ci 1), s))
set_option maxRecDepth 4000 in
theorem k_X0_sureByGlance_74 {N : Nat} {xs : Nat → Int32} (d : Nat) {r : Option Value × mH} {s : mG} {x3 : Int32} {y0 : Int32} {τ : ((Int32 × Int32 × mG) ⊕ (Int32 × mG))} (hJ : F_X0_sureByGlance_74 x3 y0 s = some τ) (hC : (C_X0_sureByGlance_23 N xs d r (fun τ => r = (some (.int τ.1), (SH, τ.2)))) τ) : Rn N xs (d + 3) me3 74 [some (.ref 73), none, none, some (.int x3), none] [(.int y0)] (SH, s) r := by
  unfold F_X0_sureByGlance_74 at hJ
  refine Rn_sq srt3 39 3 (pc' := 23) (ls' := [some (.ref 73), none, some (.int y0), some (.int (x3 + ci 1)), none]) (st' := []) (h1 := (SH, s)) rfl ?_
  rw [← Option.some.inj hJ] at hC
  exact hC
def F_X0_sureByGlance_71 (x3 : Int32) (y1 : Int32) (y2 : Int32) (y3 : Int32) (s : mG) : Option ((Int32 × Int32 × mG) ⊕ (Int32 × mG)) :=
  b1 (F_X0_sureAfter s y1 y2 y3) fun v12 =>
  F_X0_sureByGlance_74 x3 v12 s
set_option maxRecDepth 4000 in
theorem k_X0_sureByGlance_71 {N : Nat} {xs : Nat → Int32} (d : Nat) {r : Option Value × mH} {s : mG} {x3 : Int32} {y1 : Int32} {y2 : Int32} {y3 : Int32} {τ : ((Int32 × Int32 × mG) ⊕ (Int32 × mG))} (hJ : F_X0_sureByGlance_71 x3 y1 y2 y3 s = some τ) (hC : (C_X0_sureByGlance_23 N xs d r (fun τ => r = (some (.int τ.1), (SH, τ.2)))) τ) : Rn N xs (d + 3) me3 71 [some (.ref 73), none, none, some (.int x3), none] [(.int y3), (.int y2), (.int y1), (.ref 73)] (SH, s) r := by
  unfold F_X0_sureByGlance_71 at hJ
  obtain ⟨v12, h11, hJ⟩ := m_b1 hJ
  refine Rn_call srt3 38 rfl rfl rfl ⟨Nat.le_of_ble_eq_true rfl, Nat.le_of_ble_eq_true rfl, rfl, Nat.le_of_ble_eq_true rfl⟩ (k_X0_sureAfter (d + 1) h11) (show Rn N xs (d + 3) me3 74 [some (.ref 73), none, none, some (.int x3), none] [(.int v12)] (SH, s) r from ?_)
  exact (k_X0_sureByGlance_74 d hJ hC)
def F_X0_sureByGlance_B23 (x2 : Int32) (x3 : Int32) (s : mG) : Option ((Int32 × Int32 × mG) ⊕ (Int32 × mG)) :=
  if (s.1 10 3) ≤ x3 then
    some (Sum.inr (x2, s))
  else
    b1 (F_X11_cell 74 s x3) fun v8 =>
    if v8 = (ci (-1)) then
      F_X0_sureByGlance_74 x3 x2 s
    else
      if v8 = (ci 1) then
        F_X0_sureByGlance_71 x3 x2 x3 (ci 1) s
      else
        F_X0_sureByGlance_71 x3 x2 x3 (ci 0) s
set_option maxRecDepth 4000 in
theorem k_X0_sureByGlance_B23 {N : Nat} {xs : Nat → Int32} (d : Nat) {r : Option Value × mH} {s : mG} {x2 : Int32} {x3 : Int32} {τ : ((Int32 × Int32 × mG) ⊕ (Int32 × mG))} (hJ : F_X0_sureByGlance_B23 x2 x3 s = some τ) (hC : (C_X0_sureByGlance_23 N xs d r (fun τ => r = (some (.int τ.1), (SH, τ.2)))) τ) : Rn N xs (d + 3) me3 23 [some (.ref 73), none, some (.int x2), some (.int x3), none] [] (SH, s) r := by
  unfold F_X0_sureByGlance_B23 at hJ
  refine Rn_sq srt3 13 6 (pc' := (if (s.1 10 3) ≤ x3 then 81 else 37)) (ls' := [some (.ref 73), none, some (.int x2), some (.int x3), none]) (st' := []) (h1 := (SH, s)) rfl (Rn_if (fun h6 => ?_) (fun h6 => ?_))
  · replace hJ := m_ifp h6 hJ
    refine Rn_sq srt3 42 1 (pc' := 82) (ls' := [some (.ref 73), none, some (.int x2), some (.int x3), none]) (st' := [(.int x2)]) (h1 := (SH, s)) rfl ?_
    rw [← Option.some.inj hJ] at hC
    have hC : r = (some (.int x2), (SH, s)) := hC
    subst hC
    exact Rn_ret srt3 43 rfl rfl rfl
  · replace hJ := m_ifn h6 hJ
    refine Rn_sq srt3 19 3 (pc' := 42) (ls' := [some (.ref 73), none, some (.int x2), some (.int x3), none]) (st' := [(.int x3), (.ref 74)]) (h1 := (SH, s)) rfl ?_
    obtain ⟨v8, h7, hJ⟩ := m_b1 hJ
    refine Rn_call srt3 22 rfl rfl rfl ⟨Nat.le_of_ble_eq_true rfl, Nat.le_of_ble_eq_true rfl, rfl, Nat.le_of_ble_eq_true rfl⟩ (k_X11_cell 74 (d + 2) h7) (show Rn N xs (d + 3) me3 45 [some (.ref 73), none, some (.int x2), some (.int x3), none] [(.int v8)] (SH, s) r from ?_)
    refine Rn_sq srt3 23 4 (pc' := (if v8 = (ci (-1)) then 53 else 57)) (ls' := [some (.ref 73), none, some (.int x2), some (.int x3), some (.int v8)]) (st' := []) (h1 := (SH, s)) rfl (Rn_if (fun h9 => ?_) (fun h9 => ?_))
    · replace hJ := m_ifp h9 hJ
      refine Rn_sq srt3 27 2 (pc' := 74) (ls' := [some (.ref 73), none, some (.int x2), some (.int x3), some (.int v8)]) (st' := [(.int x2)]) (h1 := (SH, s)) rfl ?_
      exact Rn_weaken (a := [some (.ref 73), none, none, some (.int x3), none]) (b := [some (.ref 73), none, some (.int x2), some (.int x3), some (.int v8)]) (And.intro rfl (And.intro rfl trivial)) rfl (k_X0_sureByGlance_74 d hJ hC)
    · replace hJ := m_ifn h9 hJ
      refine Rn_sq srt3 29 6 (pc' := (if v8 = (ci 1) then 66 else 70)) (ls' := [some (.ref 73), none, some (.int x2), some (.int x3), some (.int v8)]) (st' := [(.int x3), (.int x2), (.ref 73)]) (h1 := (SH, s)) rfl (Rn_if (fun h10 => ?_) (fun h10 => ?_))
      · replace hJ := m_ifp h10 hJ
        refine Rn_sq srt3 35 2 (pc' := 71) (ls' := [some (.ref 73), none, some (.int x2), some (.int x3), some (.int v8)]) (st' := [(.int (ci 1)), (.int x3), (.int x2), (.ref 73)]) (h1 := (SH, s)) rfl ?_
        exact Rn_weaken (a := [some (.ref 73), none, none, some (.int x3), none]) (b := [some (.ref 73), none, some (.int x2), some (.int x3), some (.int v8)]) (And.intro rfl (And.intro rfl trivial)) rfl (k_X0_sureByGlance_71 d hJ hC)
      · replace hJ := m_ifn h10 hJ
        refine Rn_sq srt3 37 1 (pc' := 71) (ls' := [some (.ref 73), none, some (.int x2), some (.int x3), some (.int v8)]) (st' := [(.int (ci 0)), (.int x3), (.int x2), (.ref 73)]) (h1 := (SH, s)) rfl ?_
        exact Rn_weaken (a := [some (.ref 73), none, none, some (.int x3), none]) (b := [some (.ref 73), none, some (.int x2), some (.int x3), some (.int v8)]) (And.intro rfl (And.intro rfl trivial)) rfl (k_X0_sureByGlance_71 d hJ hC)
def F_X0_sureByGlance_L23 (x2 : Int32) (x3 : Int32) (s : mG) : Option (Int32 × mG) := whl (fun (v : (Int32 × Int32 × mG)) => F_X0_sureByGlance_B23 v.1 v.2.1 v.2.2) (x2, x3, s)
theorem k_X0_sureByGlance_L23 {N : Nat} {xs : Nat → Int32} (d : Nat) {r : Option Value × mH} {s : mG} {x2 : Int32} {x3 : Int32} {τ : (Int32 × mG)} (hJ : F_X0_sureByGlance_L23 x2 x3 s = some τ) (hC : (fun τ => r = (some (.int τ.1), (SH, τ.2))) τ) : Rn N xs (d + 3) me3 23 [some (.ref 73), none, some (.int x2), some (.int x3), none] [] (SH, s) r :=
  whl_link (P := fun (v : (Int32 × Int32 × mG)) => Rn N xs (d + 3) me3 23 [some (.ref 73), none, some (.int v.1), some (.int v.2.1), none] [] (SH, v.2.2) r) (C := (C_X0_sureByGlance_23 N xs d r (fun τ => r = (some (.int τ.1), (SH, τ.2))))) (fun v τ h1 h2 => k_X0_sureByGlance_B23 d h1 h2) (fun _ h => h) (fun _ h => h) _ _ hJ hC
def F_X0_sureByGlance (a1 : Int32) (s : mG) : Option (Int32 × mG) :=
  b1 (F_X3_face a1 s) fun s2 =>
  b2 (F_X3_tells (ci 5) s2) fun v5 s4 =>
  F_X0_sureByGlance_L23 (v5 * (c16 1000)) (ci 0) s4
set_option maxRecDepth 4000 in
theorem k_X0_sureByGlance_r {N : Nat} {xs : Nat → Int32} (d : Nat) {r : Option Value × mH} {s : mG} {a1 : Int32} {τ : (Int32 × mG)} (hJ : F_X0_sureByGlance a1 s = some τ) (hC : (fun τ => r = (some (.int τ.1), (SH, τ.2))) τ) : Rn N xs (d + 3) me3 0 [some (.ref 73), some (.int a1), none, none, none] [] (SH, s) r := by
  unfold F_X0_sureByGlance at hJ
  refine Rn_sq srt3 0 3 (pc' := 5) (ls' := [some (.ref 73), some (.int a1), none, none, none]) (st' := [(.int a1), (.ref 68)]) (h1 := (SH, s)) rfl ?_
  obtain ⟨s2, h1, hJ⟩ := m_b1 hJ
  refine Rn_call srt3 3 rfl rfl rfl ⟨Nat.le_of_ble_eq_true rfl, Nat.le_of_ble_eq_true rfl, rfl, Nat.le_of_ble_eq_true rfl⟩ (k_X3_face (d) h1) (show Rn N xs (d + 3) me3 8 [some (.ref 73), some (.int a1), none, none, none] [] (SH, s2) r from ?_)
  refine Rn_sq srt3 4 3 (pc' := 13) (ls' := [some (.ref 73), some (.int a1), none, none, none]) (st' := [(.int (ci 5)), (.ref 68)]) (h1 := (SH, s2)) rfl ?_
  obtain ⟨v5, s4, h3, hJ⟩ := m_b2 hJ
  refine Rn_call srt3 7 rfl rfl rfl ⟨Nat.le_of_ble_eq_true rfl, Nat.le_of_ble_eq_true rfl, rfl, Nat.le_of_ble_eq_true rfl⟩ (k_X3_tells (d) h3) (show Rn N xs (d + 3) me3 16 [some (.ref 73), some (.int a1), none, none, none] [(.int v5)] (SH, s4) r from ?_)
  refine Rn_sq srt3 8 5 (pc' := 23) (ls' := [some (.ref 73), some (.int a1), some (.int (v5 * (c16 1000))), some (.int (ci 0)), none]) (st' := []) (h1 := (SH, s4)) rfl ?_
  exact Rn_weaken (a := [some (.ref 73), none, some (.int (v5 * (c16 1000))), some (.int (ci 0)), none]) (b := [some (.ref 73), some (.int a1), some (.int (v5 * (c16 1000))), some (.int (ci 0)), none]) (And.intro rfl (And.intro rfl (And.intro rfl trivial))) rfl (k_X0_sureByGlance_L23 d hJ hC)
theorem k_X0_sureByGlance {N : Nat} {xs : Nat → Int32} (d : Nat) {s : mG} {a1 : Int32} {τ : (Int32 × mG)} (hJ : F_X0_sureByGlance a1 s = some τ) : Rn N xs (d + 3) me3 0 [some (.ref 73), some (.int a1), none, none, none] [] (SH, s) (some (.int τ.1), (SH, τ.2)) := k_X0_sureByGlance_r d hJ rfl
/-! IsHeIn$Belief.sureOf(I)I -/
theorem srt1 : m_srt mc1 = true := by decide +kernel
def F_X0_sureOf (a1 : Int32) (s : mG) : Option (Int32 × mG) :=
  b1 (F_X0_glanceAt a1 s) fun s2 =>
  b2 (F_X0_sureByGlance a1 s2) fun v5 s4 =>
  some (v5, s4)
set_option maxRecDepth 4000 in
theorem k_X0_sureOf_r {N : Nat} {xs : Nat → Int32} (d : Nat) {r : Option Value × mH} {s : mG} {a1 : Int32} {τ : (Int32 × mG)} (hJ : F_X0_sureOf a1 s = some τ) (hC : (fun τ => r = (some (.int τ.1), (SH, τ.2))) τ) : Rn N xs (d + 4) me1 0 [some (.ref 73), some (.int a1)] [] (SH, s) r := by
  unfold F_X0_sureOf at hJ
  refine Rn_sq srt1 0 2 (pc' := 2) (ls' := [some (.ref 73), some (.int a1)]) (st' := [(.int a1), (.ref 73)]) (h1 := (SH, s)) rfl ?_
  obtain ⟨s2, h1, hJ⟩ := m_b1 hJ
  refine Rn_call srt1 2 rfl rfl rfl ⟨Nat.le_of_ble_eq_true rfl, Nat.le_of_ble_eq_true rfl, rfl, Nat.le_of_ble_eq_true rfl⟩ (k_X0_glanceAt (d + 2) h1) (show Rn N xs (d + 4) me1 5 [some (.ref 73), some (.int a1)] [] (SH, s2) r from ?_)
  refine Rn_sq srt1 3 2 (pc' := 7) (ls' := [some (.ref 73), some (.int a1)]) (st' := [(.int a1), (.ref 73)]) (h1 := (SH, s2)) rfl ?_
  obtain ⟨v5, s4, h3, hJ⟩ := m_b2 hJ
  refine Rn_call srt1 5 rfl rfl rfl ⟨Nat.le_of_ble_eq_true rfl, Nat.le_of_ble_eq_true rfl, rfl, Nat.le_of_ble_eq_true rfl⟩ (k_X0_sureByGlance (d) h3) (show Rn N xs (d + 4) me1 10 [some (.ref 73), some (.int a1)] [(.int v5)] (SH, s4) r from ?_)
  rw [← Option.some.inj hJ] at hC
  have hC : r = (some (.int v5), (SH, s4)) := hC
  subst hC
  exact Rn_ret srt1 6 rfl rfl rfl
theorem k_X0_sureOf {N : Nat} {xs : Nat → Int32} (d : Nat) {s : mG} {a1 : Int32} {τ : (Int32 × mG)} (hJ : F_X0_sureOf a1 s = some τ) : Rn N xs (d + 4) me1 0 [some (.ref 73), some (.int a1)] [] (SH, s) (some (.int τ.1), (SH, τ.2)) := k_X0_sureOf_r d hJ rfl
/-! IsHeIn$Belief.chanceToSee(II)I -/
theorem srt5 : m_srt mc5 = true := by decide +kernel
def F_X0_chanceToSee (s : mG) (a1 : Int32) (a2 : Int32) : Option (Int32) :=
  b1 (F_X10_at 10 s a2 (ci 0)) fun v2 =>
  b1 (F_X10_at 10 s a2 (ci 1)) fun v4 =>
  some (((a1.toInt64 * v2.toInt64) + (((ci 1000000) - a1).toInt64 * v4.toInt64)) / (cl 1000)).toInt32
set_option maxRecDepth 4000 in
theorem k_X0_chanceToSee_r {N : Nat} {xs : Nat → Int32} (d : Nat) {r : Option Value × mH} {s : mG} {a1 : Int32} {a2 : Int32} {τ : (Int32)} (hJ : F_X0_chanceToSee s a1 a2 = some τ) (hC : (fun τ => r = (some (.int τ), (SH, s))) τ) : Rn N xs (d + 1) me5 0 [some (.ref 73), some (.int a1), some (.int a2), none, none, none, none] [] (SH, s) r := by
  unfold F_X0_chanceToSee at hJ
  refine Rn_sq srt5 0 5 (pc' := 9) (ls' := [some (.ref 73), some (.int a1), some (.int a2), none, none, none, none]) (st' := [(.int (ci 0)), (.int a2), (.ref 10)]) (h1 := (SH, s)) rfl ?_
  obtain ⟨v2, h1, hJ⟩ := m_b1 hJ
  refine Rn_call srt5 5 rfl rfl rfl ⟨Nat.le_of_ble_eq_true rfl, Nat.le_of_ble_eq_true rfl, rfl, Nat.le_of_ble_eq_true rfl⟩ (k_X10_at 10 (d) isT_10 h1) (show Rn N xs (d + 1) me5 12 [some (.ref 73), some (.int a1), some (.int a2), none, none, none, none] [(.int v2)] (SH, s) r from ?_)
  refine Rn_sq srt5 6 7 (pc' := 23) (ls' := [some (.ref 73), some (.int a1), some (.int a2), some (.long v2.toInt64), none, none, none]) (st' := [(.int (ci 1)), (.int a2), (.ref 10)]) (h1 := (SH, s)) rfl ?_
  obtain ⟨v4, h3, hJ⟩ := m_b1 hJ
  refine Rn_call srt5 13 rfl rfl rfl ⟨Nat.le_of_ble_eq_true rfl, Nat.le_of_ble_eq_true rfl, rfl, Nat.le_of_ble_eq_true rfl⟩ (k_X10_at 10 (d) isT_10 h3) (show Rn N xs (d + 1) me5 26 [some (.ref 73), some (.int a1), some (.int a2), some (.long v2.toInt64), none, none, none] [(.int v4)] (SH, s) r from ?_)
  refine Rn_sq srt5 14 14 (pc' := 45) (ls' := [some (.ref 73), some (.int a1), some (.int a2), some (.long v2.toInt64), none, some (.long v4.toInt64), none]) (st' := [(.long (cl 1000)), (.long ((a1.toInt64 * v2.toInt64) + (((ci 1000000) - a1).toInt64 * v4.toInt64)))]) (h1 := (SH, s)) rfl ?_
  refine Rn_ev srt5 28 rfl rfl rfl (op_ldiv (by decide)) ?_
  refine Rn_sq srt5 29 1 (pc' := 47) (ls' := [some (.ref 73), some (.int a1), some (.int a2), some (.long v2.toInt64), none, some (.long v4.toInt64), none]) (st' := [(.int (((a1.toInt64 * v2.toInt64) + (((ci 1000000) - a1).toInt64 * v4.toInt64)) / (cl 1000)).toInt32)]) (h1 := (SH, s)) rfl ?_
  rw [← Option.some.inj hJ] at hC
  have hC : r = (some (.int (((a1.toInt64 * v2.toInt64) + (((ci 1000000) - a1).toInt64 * v4.toInt64)) / (cl 1000)).toInt32), (SH, s)) := hC
  subst hC
  exact Rn_ret srt5 30 rfl rfl rfl
theorem k_X0_chanceToSee {N : Nat} {xs : Nat → Int32} (d : Nat) {s : mG} {a1 : Int32} {a2 : Int32} {τ : (Int32)} (hJ : F_X0_chanceToSee s a1 a2 = some τ) : Rn N xs (d + 1) me5 0 [some (.ref 73), some (.int a1), some (.int a2), none, none, none, none] [] (SH, s) (some (.int τ), (SH, s)) := k_X0_chanceToSee_r d hJ rfl
/-! IsHeIn$Belief.surenessBy(II)J -/
theorem srt6 : m_srt mc6 = true := by decide +kernel
def F_X0_surenessBy (s : mG) (a1 : Int32) (a2 : Int32) : Option (Int64) :=
  b1 (F_X0_chanceToSee s a1 a2) fun v2 =>
  b1 (F_X0_sureAfter s a1 a2 (ci 1)) fun v4 =>
  b1 (F_X0_sureAfter s a1 a2 (ci 0)) fun v6 =>
  some ((v2.toInt64 * (lmax v4.toInt64 ((cl 1000000) - v4.toInt64))) + (((ci 1000000) - v2).toInt64 * (lmax v6.toInt64 ((cl 1000000) - v6.toInt64))))
set_option maxRecDepth 4000 in
theorem k_X0_surenessBy_r {N : Nat} {xs : Nat → Int32} (d : Nat) {r : Option Value × mH} {s : mG} {a1 : Int32} {a2 : Int32} {τ : (Int64)} (hJ : F_X0_surenessBy s a1 a2 = some τ) (hC : (fun τ => r = (some (.long τ), (SH, s))) τ) : Rn N xs (d + 2) me6 0 [some (.ref 73), some (.int a1), some (.int a2), none, none, none, none, none] [] (SH, s) r := by
  unfold F_X0_surenessBy at hJ
  refine Rn_sq srt6 0 3 (pc' := 3) (ls' := [some (.ref 73), some (.int a1), some (.int a2), none, none, none, none, none]) (st' := [(.int a2), (.int a1), (.ref 73)]) (h1 := (SH, s)) rfl ?_
  obtain ⟨v2, h1, hJ⟩ := m_b1 hJ
  refine Rn_call srt6 3 rfl rfl rfl ⟨Nat.le_of_ble_eq_true rfl, Nat.le_of_ble_eq_true rfl, rfl, Nat.le_of_ble_eq_true rfl⟩ (k_X0_chanceToSee (d) h1) (show Rn N xs (d + 2) me6 6 [some (.ref 73), some (.int a1), some (.int a2), none, none, none, none, none] [(.int v2)] (SH, s) r from ?_)
  refine Rn_sq srt6 4 5 (pc' := 11) (ls' := [some (.ref 73), some (.int a1), some (.int a2), some (.int v2), none, none, none, none]) (st' := [(.int (ci 1)), (.int a2), (.int a1), (.ref 73)]) (h1 := (SH, s)) rfl ?_
  obtain ⟨v4, h3, hJ⟩ := m_b1 hJ
  refine Rn_call srt6 9 rfl rfl rfl ⟨Nat.le_of_ble_eq_true rfl, Nat.le_of_ble_eq_true rfl, rfl, Nat.le_of_ble_eq_true rfl⟩ (k_X0_sureAfter (d) h3) (show Rn N xs (d + 2) me6 14 [some (.ref 73), some (.int a1), some (.int a2), some (.int v2), none, none, none, none] [(.int v4)] (SH, s) r from ?_)
  refine Rn_sq srt6 10 6 (pc' := 21) (ls' := [some (.ref 73), some (.int a1), some (.int a2), some (.int v2), some (.long v4.toInt64), none, none, none]) (st' := [(.int (ci 0)), (.int a2), (.int a1), (.ref 73)]) (h1 := (SH, s)) rfl ?_
  obtain ⟨v6, h5, hJ⟩ := m_b1 hJ
  refine Rn_call srt6 16 rfl rfl rfl ⟨Nat.le_of_ble_eq_true rfl, Nat.le_of_ble_eq_true rfl, rfl, Nat.le_of_ble_eq_true rfl⟩ (k_X0_sureAfter (d) h5) (show Rn N xs (d + 2) me6 24 [some (.ref 73), some (.int a1), some (.int a2), some (.int v2), some (.long v4.toInt64), none, none, none] [(.int v6)] (SH, s) r from ?_)
  refine Rn_sq srt6 17 21 (pc' := 59) (ls' := [some (.ref 73), some (.int a1), some (.int a2), some (.int v2), some (.long v4.toInt64), none, some (.long v6.toInt64), none]) (st' := [(.long ((v2.toInt64 * (lmax v4.toInt64 ((cl 1000000) - v4.toInt64))) + (((ci 1000000) - v2).toInt64 * (lmax v6.toInt64 ((cl 1000000) - v6.toInt64)))))]) (h1 := (SH, s)) rfl ?_
  rw [← Option.some.inj hJ] at hC
  have hC : r = (some (.long ((v2.toInt64 * (lmax v4.toInt64 ((cl 1000000) - v4.toInt64))) + (((ci 1000000) - v2).toInt64 * (lmax v6.toInt64 ((cl 1000000) - v6.toInt64))))), (SH, s)) := hC
  subst hC
  exact Rn_ret srt6 38 rfl rfl rfl
theorem k_X0_surenessBy {N : Nat} {xs : Nat → Int32} (d : Nat) {s : mG} {a1 : Int32} {a2 : Int32} {τ : (Int64)} (hJ : F_X0_surenessBy s a1 a2 = some τ) : Rn N xs (d + 2) me6 0 [some (.ref 73), some (.int a1), some (.int a2), none, none, none, none, none] [] (SH, s) (some (.long τ), (SH, s)) := k_X0_surenessBy_r d hJ rfl
/-! IsHeIn$Belief.bestSign(I)I -/
theorem srt7 : m_srt mc7 = true := by decide +kernel
def C_X0_bestSign_9 (N : Nat) (xs : Nat → Int32) (s : mG) (d : Nat) (r : Option Value × mH) (C : (Int32) → Prop) : ((Int32 × Int32 × Int64 × Int32) ⊕ (Int32)) → Prop
  | .inl v => Rn N xs (d + 3) me7 9 [some (.ref 73), some (.int v.1), some (.int v.2.1), some (.long v.2.2.1), none, some (.int v.2.2.2), none, none] [] (SH, s) r
  | .inr a => C a
def F_X0_bestSign_59 (s : mG) (x1 : Int32) (x2 : Int32) (x3 : Int64) (x5 : Int32) : Option ((Int32 × Int32 × Int64 × Int32) ⊕ (Int32)) :=
  some (Sum.inl (x1, x2, x3, (x5 + ci 1)))
set_option maxRecDepth 4000 in
theorem k_X0_bestSign_59 {N : Nat} {xs : Nat → Int32} (d : Nat) {r : Option Value × mH} {s : mG} {x1 : Int32} {x2 : Int32} {x3 : Int64} {x5 : Int32} {τ : ((Int32 × Int32 × Int64 × Int32) ⊕ (Int32))} (hJ : F_X0_bestSign_59 s x1 x2 x3 x5 = some τ) (hC : (C_X0_bestSign_9 N xs s d r (fun τ => r = (some (.int τ), (SH, s)))) τ) : Rn N xs (d + 3) me7 59 [some (.ref 73), some (.int x1), some (.int x2), some (.long x3), none, some (.int x5), none, none] [] (SH, s) r := by
  unfold F_X0_bestSign_59 at hJ
  refine Rn_sq srt7 31 2 (pc' := 9) (ls' := [some (.ref 73), some (.int x1), some (.int x2), some (.long x3), none, some (.int (x5 + ci 1)), none, none]) (st' := []) (h1 := (SH, s)) rfl ?_
  rw [← Option.some.inj hJ] at hC
  exact hC
def F_X0_bestSign_B9 (s : mG) (x1 : Int32) (x2 : Int32) (x3 : Int64) (x5 : Int32) : Option ((Int32 × Int32 × Int64 × Int32) ⊕ (Int32)) :=
  if (s.1 10 3) ≤ x5 then
    some (Sum.inr x2)
  else
    b1 (F_X0_surenessBy s x1 x5) fun v3 =>
    b1 (F_X11_cell 74 s x5) fun v5 =>
    if v5 = (ci (-1)) then
      if (lg_cmp v3 x3) ≤ 0 then
        F_X0_bestSign_59 s x1 x2 x3 x5
      else
        F_X0_bestSign_59 s x1 x5 v3 x5
    else
      F_X0_bestSign_59 s x1 x2 x3 x5
set_option maxRecDepth 4000 in
theorem k_X0_bestSign_B9 {N : Nat} {xs : Nat → Int32} (d : Nat) {r : Option Value × mH} {s : mG} {x1 : Int32} {x2 : Int32} {x3 : Int64} {x5 : Int32} {τ : ((Int32 × Int32 × Int64 × Int32) ⊕ (Int32))} (hJ : F_X0_bestSign_B9 s x1 x2 x3 x5 = some τ) (hC : (C_X0_bestSign_9 N xs s d r (fun τ => r = (some (.int τ), (SH, s)))) τ) : Rn N xs (d + 3) me7 9 [some (.ref 73), some (.int x1), some (.int x2), some (.long x3), none, some (.int x5), none, none] [] (SH, s) r := by
  unfold F_X0_bestSign_B9 at hJ
  refine Rn_sq srt7 6 6 (pc' := (if (s.1 10 3) ≤ x5 then 65 else 24)) (ls' := [some (.ref 73), some (.int x1), some (.int x2), some (.long x3), none, some (.int x5), none, none]) (st' := []) (h1 := (SH, s)) rfl (Rn_if (fun h1 => ?_) (fun h1 => ?_))
  · replace hJ := m_ifp h1 hJ
    refine Rn_sq srt7 33 1 (pc' := 66) (ls' := [some (.ref 73), some (.int x1), some (.int x2), some (.long x3), none, some (.int x5), none, none]) (st' := [(.int x2)]) (h1 := (SH, s)) rfl ?_
    rw [← Option.some.inj hJ] at hC
    have hC : r = (some (.int x2), (SH, s)) := hC
    subst hC
    exact Rn_ret srt7 34 rfl rfl rfl
  · replace hJ := m_ifn h1 hJ
    refine Rn_sq srt7 12 3 (pc' := 28) (ls' := [some (.ref 73), some (.int x1), some (.int x2), some (.long x3), none, some (.int x5), none, none]) (st' := [(.int x5), (.int x1), (.ref 73)]) (h1 := (SH, s)) rfl ?_
    obtain ⟨v3, h2, hJ⟩ := m_b1 hJ
    refine Rn_call srt7 15 rfl rfl rfl ⟨Nat.le_of_ble_eq_true rfl, Nat.le_of_ble_eq_true rfl, rfl, Nat.le_of_ble_eq_true rfl⟩ (k_X0_surenessBy (d) h2) (show Rn N xs (d + 3) me7 31 [some (.ref 73), some (.int x1), some (.int x2), some (.long x3), none, some (.int x5), none, none] [(.long v3)] (SH, s) r from ?_)
    refine Rn_sq srt7 16 4 (pc' := 39) (ls' := [some (.ref 73), some (.int x1), some (.int x2), some (.long x3), none, some (.int x5), some (.long v3), none]) (st' := [(.int x5), (.ref 74)]) (h1 := (SH, s)) rfl ?_
    obtain ⟨v5, h4, hJ⟩ := m_b1 hJ
    refine Rn_call srt7 20 rfl rfl rfl ⟨Nat.le_of_ble_eq_true rfl, Nat.le_of_ble_eq_true rfl, rfl, Nat.le_of_ble_eq_true rfl⟩ (k_X11_cell 74 (d + 2) h4) (show Rn N xs (d + 3) me7 42 [some (.ref 73), some (.int x1), some (.int x2), some (.long x3), none, some (.int x5), some (.long v3), none] [(.int v5)] (SH, s) r from ?_)
    refine Rn_sq srt7 21 2 (pc' := (if v5 = (ci (-1)) then 46 else 59)) (ls' := [some (.ref 73), some (.int x1), some (.int x2), some (.long x3), none, some (.int x5), some (.long v3), none]) (st' := []) (h1 := (SH, s)) rfl (Rn_if (fun h6 => ?_) (fun h6 => ?_))
    · replace hJ := m_ifp h6 hJ
      refine Rn_sq srt7 23 4 (pc' := (if (lg_cmp v3 x3) ≤ 0 then 59 else 53)) (ls' := [some (.ref 73), some (.int x1), some (.int x2), some (.long x3), none, some (.int x5), some (.long v3), none]) (st' := []) (h1 := (SH, s)) rfl (Rn_if (fun h7 => ?_) (fun h7 => ?_))
      · replace hJ := m_ifp h7 hJ
        exact Rn_weaken (a := [some (.ref 73), some (.int x1), some (.int x2), some (.long x3), none, some (.int x5), none, none]) (b := [some (.ref 73), some (.int x1), some (.int x2), some (.long x3), none, some (.int x5), some (.long v3), none]) (And.intro rfl (And.intro rfl (And.intro rfl (And.intro rfl (And.intro rfl trivial))))) rfl (k_X0_bestSign_59 d hJ hC)
      · replace hJ := m_ifn h7 hJ
        refine Rn_sq srt7 27 4 (pc' := 59) (ls' := [some (.ref 73), some (.int x1), some (.int x5), some (.long v3), none, some (.int x5), some (.long v3), none]) (st' := []) (h1 := (SH, s)) rfl ?_
        exact Rn_weaken (a := [some (.ref 73), some (.int x1), some (.int x5), some (.long v3), none, some (.int x5), none, none]) (b := [some (.ref 73), some (.int x1), some (.int x5), some (.long v3), none, some (.int x5), some (.long v3), none]) (And.intro rfl (And.intro rfl (And.intro rfl (And.intro rfl (And.intro rfl trivial))))) rfl (k_X0_bestSign_59 d hJ hC)
    · replace hJ := m_ifn h6 hJ
      exact Rn_weaken (a := [some (.ref 73), some (.int x1), some (.int x2), some (.long x3), none, some (.int x5), none, none]) (b := [some (.ref 73), some (.int x1), some (.int x2), some (.long x3), none, some (.int x5), some (.long v3), none]) (And.intro rfl (And.intro rfl (And.intro rfl (And.intro rfl (And.intro rfl trivial))))) rfl (k_X0_bestSign_59 d hJ hC)
def F_X0_bestSign_L9 (s : mG) (x1 : Int32) (x2 : Int32) (x3 : Int64) (x5 : Int32) : Option (Int32) := whl (fun (v : (Int32 × Int32 × Int64 × Int32)) => F_X0_bestSign_B9 s v.1 v.2.1 v.2.2.1 v.2.2.2) (x1, x2, x3, x5)
theorem k_X0_bestSign_L9 {N : Nat} {xs : Nat → Int32} (d : Nat) {r : Option Value × mH} {s : mG} {x1 : Int32} {x2 : Int32} {x3 : Int64} {x5 : Int32} {τ : (Int32)} (hJ : F_X0_bestSign_L9 s x1 x2 x3 x5 = some τ) (hC : (fun τ => r = (some (.int τ), (SH, s))) τ) : Rn N xs (d + 3) me7 9 [some (.ref 73), some (.int x1), some (.int x2), some (.long x3), none, some (.int x5), none, none] [] (SH, s) r :=
  whl_link (P := fun (v : (Int32 × Int32 × Int64 × Int32)) => Rn N xs (d + 3) me7 9 [some (.ref 73), some (.int v.1), some (.int v.2.1), some (.long v.2.2.1), none, some (.int v.2.2.2), none, none] [] (SH, s) r) (C := (C_X0_bestSign_9 N xs s d r (fun τ => r = (some (.int τ), (SH, s))))) (fun v τ h1 h2 => k_X0_bestSign_B9 d h1 h2) (fun _ h => h) (fun _ h => h) _ _ hJ hC
def F_X0_bestSign (s : mG) (a1 : Int32) : Option (Int32) :=
  F_X0_bestSign_L9 s a1 (ci (-1)) (cl (-1)) (ci 0)
set_option maxRecDepth 4000 in
theorem k_X0_bestSign_r {N : Nat} {xs : Nat → Int32} (d : Nat) {r : Option Value × mH} {s : mG} {a1 : Int32} {τ : (Int32)} (hJ : F_X0_bestSign s a1 = some τ) (hC : (fun τ => r = (some (.int τ), (SH, s))) τ) : Rn N xs (d + 3) me7 0 [some (.ref 73), some (.int a1), none, none, none, none, none, none] [] (SH, s) r := by
  unfold F_X0_bestSign at hJ
  refine Rn_sq srt7 0 6 (pc' := 9) (ls' := [some (.ref 73), some (.int a1), some (.int (ci (-1))), some (.long (cl (-1))), none, some (.int (ci 0)), none, none]) (st' := []) (h1 := (SH, s)) rfl ?_
  exact (k_X0_bestSign_L9 d hJ hC)
theorem k_X0_bestSign {N : Nat} {xs : Nat → Int32} (d : Nat) {s : mG} {a1 : Int32} {τ : (Int32)} (hJ : F_X0_bestSign s a1 = some τ) : Rn N xs (d + 3) me7 0 [some (.ref 73), some (.int a1), none, none, none, none, none, none] [] (SH, s) (some (.int τ), (SH, s)) := k_X0_bestSign_r d hJ rfl
/-! IsHeIn$Belief.signAt(II)I -/
theorem srt8 : m_srt mc8 = true := by decide +kernel
def C_X0_signAt_7 (N : Nat) (xs : Nat → Int32) (d : Nat) (r : Option Value × mH) (C : (Int32 × mG) → Prop) : ((Int32 × Int32 × Int32 × mG) ⊕ (Int32 × mG)) → Prop
  | .inl v => Rn N xs (d + 4) me8 7 [some (.ref 73), some (.int v.1), some (.int v.2.1), some (.int v.2.2.1), none, none] [] (SH, v.2.2.2) r
  | .inr a => C a
def F_X0_signAt_39 (x5 : Int32) (s : mG) : Option (Int32 × mG) :=
  some (x5, s)
set_option maxRecDepth 4000 in
theorem k_X0_signAt_39 {N : Nat} {xs : Nat → Int32} (d : Nat) {r : Option Value × mH} {s : mG} {x5 : Int32} {τ : (Int32 × mG)} (hJ : F_X0_signAt_39 x5 s = some τ) (hC : (fun τ => r = (some (.int τ.1), (SH, τ.2))) τ) : Rn N xs (d + 4) me8 39 [none, none, none, none, none, some (.int x5)] [] (SH, s) r := by
  unfold F_X0_signAt_39 at hJ
  refine Rn_sq srt8 22 1 (pc' := 41) (ls' := [none, none, none, none, none, some (.int x5)]) (st' := [(.int x5)]) (h1 := (SH, s)) rfl ?_
  rw [← Option.some.inj hJ] at hC
  have hC : r = (some (.int x5), (SH, s)) := hC
  subst hC
  exact Rn_ret srt8 23 rfl rfl rfl
def F_X0_signAt_66 (x1 : Int32) (x2 : Int32) (x3 : Int32) (y1 : Int32) (y2 : Int32) (s : mG) : Option ((Int32 × Int32 × Int32 × mG) ⊕ (Int32 × mG)) :=
  b1 (F_X11_put 74 y1 y2 s) fun s15 =>
  some (Sum.inl (x1, x2, (x3 + ci 1), s15))
set_option maxRecDepth 4000 in
theorem k_X0_signAt_66 {N : Nat} {xs : Nat → Int32} (d : Nat) {r : Option Value × mH} {s : mG} {x1 : Int32} {x2 : Int32} {x3 : Int32} {y1 : Int32} {y2 : Int32} {τ : ((Int32 × Int32 × Int32 × mG) ⊕ (Int32 × mG))} (hJ : F_X0_signAt_66 x1 x2 x3 y1 y2 s = some τ) (hC : (C_X0_signAt_7 N xs d r (fun τ => r = (some (.int τ.1), (SH, τ.2)))) τ) : Rn N xs (d + 4) me8 66 [some (.ref 73), some (.int x1), some (.int x2), some (.int x3), none, none] [(.int y2), (.int y1), (.ref 74)] (SH, s) r := by
  unfold F_X0_signAt_66 at hJ
  obtain ⟨s15, h14, hJ⟩ := m_b1 hJ
  refine Rn_call srt8 36 rfl rfl rfl ⟨Nat.le_of_ble_eq_true rfl, Nat.le_of_ble_eq_true rfl, rfl, Nat.le_of_ble_eq_true rfl⟩ (k_X11_put 74 (d + 3) h14) (show Rn N xs (d + 4) me8 69 [some (.ref 73), some (.int x1), some (.int x2), some (.int x3), none, none] [] (SH, s15) r from ?_)
  refine Rn_sq srt8 37 2 (pc' := 7) (ls' := [some (.ref 73), some (.int x1), some (.int x2), some (.int (x3 + ci 1)), none, none]) (st' := []) (h1 := (SH, s15)) rfl ?_
  rw [← Option.some.inj hJ] at hC
  exact hC
def F_X0_signAt_B7 (x1 : Int32) (x2 : Int32) (x3 : Int32) (s : mG) : Option ((Int32 × Int32 × Int32 × mG) ⊕ (Int32 × mG)) :=
  if (c8 6) ≤ x3 then
    some (Sum.inr ((ci (-1)), s))
  else
    b2 (F_X0_sureByGlance x1 s) fun v6 s5 =>
    b1 (F_X0_bestSign s5 v6) fun v8 =>
    if v8 = (ci (-1)) then
      b1 (F_X0_signAt_39 v8 s5) fun τ => some (Sum.inr τ)
    else
      if x3 = x2 then
        b1 (F_X0_signAt_39 v8 s5) fun τ => some (Sum.inr τ)
      else
        b1 (F_X0_chanceToSee s5 v6 v8) fun v12 =>
        if v12 < (ci 500000) then
          F_X0_signAt_66 x1 x2 x3 v8 (ci 0) s5
        else
          F_X0_signAt_66 x1 x2 x3 v8 (ci 1) s5
set_option maxRecDepth 4000 in
theorem k_X0_signAt_B7 {N : Nat} {xs : Nat → Int32} (d : Nat) {r : Option Value × mH} {s : mG} {x1 : Int32} {x2 : Int32} {x3 : Int32} {τ : ((Int32 × Int32 × Int32 × mG) ⊕ (Int32 × mG))} (hJ : F_X0_signAt_B7 x1 x2 x3 s = some τ) (hC : (C_X0_signAt_7 N xs d r (fun τ => r = (some (.int τ.1), (SH, τ.2)))) τ) : Rn N xs (d + 4) me8 7 [some (.ref 73), some (.int x1), some (.int x2), some (.int x3), none, none] [] (SH, s) r := by
  unfold F_X0_signAt_B7 at hJ
  refine Rn_sq srt8 5 3 (pc' := (if (c8 6) ≤ x3 then 75 else 13)) (ls' := [some (.ref 73), some (.int x1), some (.int x2), some (.int x3), none, none]) (st' := []) (h1 := (SH, s)) rfl (Rn_if (fun h3 => ?_) (fun h3 => ?_))
  · replace hJ := m_ifp h3 hJ
    refine Rn_sq srt8 39 1 (pc' := 76) (ls' := [some (.ref 73), some (.int x1), some (.int x2), some (.int x3), none, none]) (st' := [(.int (ci (-1)))]) (h1 := (SH, s)) rfl ?_
    rw [← Option.some.inj hJ] at hC
    have hC : r = (some (.int (ci (-1))), (SH, s)) := hC
    subst hC
    exact Rn_ret srt8 40 rfl rfl rfl
  · replace hJ := m_ifn h3 hJ
    refine Rn_sq srt8 8 2 (pc' := 15) (ls' := [some (.ref 73), some (.int x1), some (.int x2), some (.int x3), none, none]) (st' := [(.int x1), (.ref 73)]) (h1 := (SH, s)) rfl ?_
    obtain ⟨v6, s5, h4, hJ⟩ := m_b2 hJ
    refine Rn_call srt8 10 rfl rfl rfl ⟨Nat.le_of_ble_eq_true rfl, Nat.le_of_ble_eq_true rfl, rfl, Nat.le_of_ble_eq_true rfl⟩ (k_X0_sureByGlance (d) h4) (show Rn N xs (d + 4) me8 18 [some (.ref 73), some (.int x1), some (.int x2), some (.int x3), none, none] [(.int v6)] (SH, s5) r from ?_)
    refine Rn_sq srt8 11 3 (pc' := 23) (ls' := [some (.ref 73), some (.int x1), some (.int x2), some (.int x3), some (.int v6), none]) (st' := [(.int v6), (.ref 73)]) (h1 := (SH, s5)) rfl ?_
    obtain ⟨v8, h7, hJ⟩ := m_b1 hJ
    refine Rn_call srt8 14 rfl rfl rfl ⟨Nat.le_of_ble_eq_true rfl, Nat.le_of_ble_eq_true rfl, rfl, Nat.le_of_ble_eq_true rfl⟩ (k_X0_bestSign (d) h7) (show Rn N xs (d + 4) me8 26 [some (.ref 73), some (.int x1), some (.int x2), some (.int x3), some (.int v6), none] [(.int v8)] (SH, s5) r from ?_)
    refine Rn_sq srt8 15 4 (pc' := (if v8 = (ci (-1)) then 39 else 34)) (ls' := [some (.ref 73), some (.int x1), some (.int x2), some (.int x3), some (.int v6), some (.int v8)]) (st' := []) (h1 := (SH, s5)) rfl (Rn_if (fun h9 => ?_) (fun h9 => ?_))
    · replace hJ := m_ifp h9 hJ
      obtain ⟨τ1, hJ1, hJ⟩ := m_b1 hJ
      rw [← Option.some.inj hJ] at hC
      exact Rn_weaken (a := [none, none, none, none, none, some (.int v8)]) (b := [some (.ref 73), some (.int x1), some (.int x2), some (.int x3), some (.int v6), some (.int v8)]) (And.intro rfl trivial) rfl (k_X0_signAt_39 d hJ1 hC)
    · replace hJ := m_ifn h9 hJ
      refine Rn_sq srt8 19 3 (pc' := (if x3 = x2 then 39 else 42)) (ls' := [some (.ref 73), some (.int x1), some (.int x2), some (.int x3), some (.int v6), some (.int v8)]) (st' := []) (h1 := (SH, s5)) rfl (Rn_if (fun h10 => ?_) (fun h10 => ?_))
      · replace hJ := m_ifp h10 hJ
        obtain ⟨τ1, hJ1, hJ⟩ := m_b1 hJ
        rw [← Option.some.inj hJ] at hC
        exact Rn_weaken (a := [none, none, none, none, none, some (.int v8)]) (b := [some (.ref 73), some (.int x1), some (.int x2), some (.int x3), some (.int v6), some (.int v8)]) (And.intro rfl trivial) rfl (k_X0_signAt_39 d hJ1 hC)
      · replace hJ := m_ifn h10 hJ
        refine Rn_sq srt8 24 6 (pc' := 53) (ls' := [some (.ref 73), some (.int x1), some (.int x2), some (.int x3), some (.int v6), some (.int v8)]) (st' := [(.int v8), (.int v6), (.ref 73), (.int v8), (.ref 74)]) (h1 := (SH, s5)) rfl ?_
        obtain ⟨v12, h11, hJ⟩ := m_b1 hJ
        refine Rn_call srt8 30 rfl rfl rfl ⟨Nat.le_of_ble_eq_true rfl, Nat.le_of_ble_eq_true rfl, rfl, Nat.le_of_ble_eq_true rfl⟩ (k_X0_chanceToSee (d + 2) h11) (show Rn N xs (d + 4) me8 56 [some (.ref 73), some (.int x1), some (.int x2), some (.int x3), some (.int v6), some (.int v8)] [(.int v12), (.int v8), (.ref 74)] (SH, s5) r from ?_)
        refine Rn_sq srt8 31 2 (pc' := (if v12 < (ci 500000) then 65 else 61)) (ls' := [some (.ref 73), some (.int x1), some (.int x2), some (.int x3), some (.int v6), some (.int v8)]) (st' := [(.int v8), (.ref 74)]) (h1 := (SH, s5)) rfl (Rn_if (fun h13 => ?_) (fun h13 => ?_))
        · replace hJ := m_ifp h13 hJ
          refine Rn_sq srt8 35 1 (pc' := 66) (ls' := [some (.ref 73), some (.int x1), some (.int x2), some (.int x3), some (.int v6), some (.int v8)]) (st' := [(.int (ci 0)), (.int v8), (.ref 74)]) (h1 := (SH, s5)) rfl ?_
          exact Rn_weaken (a := [some (.ref 73), some (.int x1), some (.int x2), some (.int x3), none, none]) (b := [some (.ref 73), some (.int x1), some (.int x2), some (.int x3), some (.int v6), some (.int v8)]) (And.intro rfl (And.intro rfl (And.intro rfl (And.intro rfl trivial)))) rfl (k_X0_signAt_66 d hJ hC)
        · replace hJ := m_ifn h13 hJ
          refine Rn_sq srt8 33 2 (pc' := 66) (ls' := [some (.ref 73), some (.int x1), some (.int x2), some (.int x3), some (.int v6), some (.int v8)]) (st' := [(.int (ci 1)), (.int v8), (.ref 74)]) (h1 := (SH, s5)) rfl ?_
          exact Rn_weaken (a := [some (.ref 73), some (.int x1), some (.int x2), some (.int x3), none, none]) (b := [some (.ref 73), some (.int x1), some (.int x2), some (.int x3), some (.int v6), some (.int v8)]) (And.intro rfl (And.intro rfl (And.intro rfl (And.intro rfl trivial)))) rfl (k_X0_signAt_66 d hJ hC)
def F_X0_signAt_L7 (x1 : Int32) (x2 : Int32) (x3 : Int32) (s : mG) : Option (Int32 × mG) := whl (fun (v : (Int32 × Int32 × Int32 × mG)) => F_X0_signAt_B7 v.1 v.2.1 v.2.2.1 v.2.2.2) (x1, x2, x3, s)
theorem k_X0_signAt_L7 {N : Nat} {xs : Nat → Int32} (d : Nat) {r : Option Value × mH} {s : mG} {x1 : Int32} {x2 : Int32} {x3 : Int32} {τ : (Int32 × mG)} (hJ : F_X0_signAt_L7 x1 x2 x3 s = some τ) (hC : (fun τ => r = (some (.int τ.1), (SH, τ.2))) τ) : Rn N xs (d + 4) me8 7 [some (.ref 73), some (.int x1), some (.int x2), some (.int x3), none, none] [] (SH, s) r :=
  whl_link (P := fun (v : (Int32 × Int32 × Int32 × mG)) => Rn N xs (d + 4) me8 7 [some (.ref 73), some (.int v.1), some (.int v.2.1), some (.int v.2.2.1), none, none] [] (SH, v.2.2.2) r) (C := (C_X0_signAt_7 N xs d r (fun τ => r = (some (.int τ.1), (SH, τ.2))))) (fun v τ h1 h2 => k_X0_signAt_B7 d h1 h2) (fun _ h => h) (fun _ h => h) _ _ hJ hC
def F_X0_signAt (a1 : Int32) (a2 : Int32) (s : mG) : Option (Int32 × mG) :=
  b1 (F_X0_glanceAt a1 s) fun s2 =>
  F_X0_signAt_L7 a1 a2 (ci 0) s2
set_option maxRecDepth 4000 in
theorem k_X0_signAt_r {N : Nat} {xs : Nat → Int32} (d : Nat) {r : Option Value × mH} {s : mG} {a1 : Int32} {a2 : Int32} {τ : (Int32 × mG)} (hJ : F_X0_signAt a1 a2 s = some τ) (hC : (fun τ => r = (some (.int τ.1), (SH, τ.2))) τ) : Rn N xs (d + 4) me8 0 [some (.ref 73), some (.int a1), some (.int a2), none, none, none] [] (SH, s) r := by
  unfold F_X0_signAt at hJ
  refine Rn_sq srt8 0 2 (pc' := 2) (ls' := [some (.ref 73), some (.int a1), some (.int a2), none, none, none]) (st' := [(.int a1), (.ref 73)]) (h1 := (SH, s)) rfl ?_
  obtain ⟨s2, h1, hJ⟩ := m_b1 hJ
  refine Rn_call srt8 2 rfl rfl rfl ⟨Nat.le_of_ble_eq_true rfl, Nat.le_of_ble_eq_true rfl, rfl, Nat.le_of_ble_eq_true rfl⟩ (k_X0_glanceAt (d + 2) h1) (show Rn N xs (d + 4) me8 5 [some (.ref 73), some (.int a1), some (.int a2), none, none, none] [] (SH, s2) r from ?_)
  refine Rn_sq srt8 3 2 (pc' := 7) (ls' := [some (.ref 73), some (.int a1), some (.int a2), some (.int (ci 0)), none, none]) (st' := []) (h1 := (SH, s2)) rfl ?_
  exact (k_X0_signAt_L7 d hJ hC)
theorem k_X0_signAt {N : Nat} {xs : Nat → Int32} (d : Nat) {s : mG} {a1 : Int32} {a2 : Int32} {τ : (Int32 × mG)} (hJ : F_X0_signAt a1 a2 s = some τ) : Rn N xs (d + 4) me8 0 [some (.ref 73), some (.int a1), some (.int a2), none, none, none] [] (SH, s) (some (.int τ.1), (SH, τ.2)) := k_X0_signAt_r d hJ rfl
/-! IsHeIn$Belief.isBestSaidIn(JII)Z -/
theorem srt10 : m_srt mc10 = true := by decide +kernel
def F_X0_isBestSaidIn (s : mG) (a1 : Int64) (a2 : Int32) (a3 : Int32) : Option (Int32) :=
  if 0 < (lg_cmp (((cl 1000000) - a1) * a2.toInt64) (a1 * a3.toInt64)) then
    some (ci 0)
  else
    some (ci 1)
set_option maxRecDepth 4000 in
theorem k_X0_isBestSaidIn_r {N : Nat} {xs : Nat → Int32} (d : Nat) {r : Option Value × mH} {s : mG} {a1 : Int64} {a2 : Int32} {a3 : Int32} {τ : (Int32)} (hJ : F_X0_isBestSaidIn s a1 a2 a3 = some τ) (hC : (fun τ => r = (some (.int τ), (SH, s))) τ) : Rn N xs (d + 0) me10 0 [some (.long a1), none, some (.int a2), some (.int a3)] [] (SH, s) r := by
  unfold F_X0_isBestSaidIn at hJ
  refine Rn_sq srt10 0 12 (pc' := (if 0 < (lg_cmp (((cl 1000000) - a1) * a2.toInt64) (a1 * a3.toInt64)) then 20 else 16)) (ls' := [some (.long a1), none, some (.int a2), some (.int a3)]) (st' := []) (h1 := (SH, s)) rfl (Rn_if (fun h1 => ?_) (fun h1 => ?_))
  · replace hJ := m_ifp h1 hJ
    refine Rn_sq srt10 14 1 (pc' := 21) (ls' := [some (.long a1), none, some (.int a2), some (.int a3)]) (st' := [(.int (ci 0))]) (h1 := (SH, s)) rfl ?_
    rw [← Option.some.inj hJ] at hC
    have hC : r = (some (.int (ci 0)), (SH, s)) := hC
    subst hC
    exact Rn_ret srt10 15 rfl rfl (m_ret_b rfl (by decide))
  · replace hJ := m_ifn h1 hJ
    refine Rn_sq srt10 12 2 (pc' := 21) (ls' := [some (.long a1), none, some (.int a2), some (.int a3)]) (st' := [(.int (ci 1))]) (h1 := (SH, s)) rfl ?_
    rw [← Option.some.inj hJ] at hC
    have hC : r = (some (.int (ci 1)), (SH, s)) := hC
    subst hC
    exact Rn_ret srt10 15 rfl rfl (m_ret_b rfl (by decide))
theorem k_X0_isBestSaidIn {N : Nat} {xs : Nat → Int32} (d : Nat) {s : mG} {a1 : Int64} {a2 : Int32} {a3 : Int32} {τ : (Int32)} (hJ : F_X0_isBestSaidIn s a1 a2 a3 = some τ) : Rn N xs (d + 0) me10 0 [some (.long a1), none, some (.int a2), some (.int a3)] [] (SH, s) (some (.int τ), (SH, s)) := k_X0_isBestSaidIn_r d hJ rfl
/-! IsHeIn$Belief.saysIn(III)Z -/
theorem srt9 : m_srt mc9 = true := by decide +kernel
def F_X0_saysIn (a1 : Int32) (a2 : Int32) (a3 : Int32) (s : mG) : Option (Int32 × mG) :=
  b2 (F_X0_sureOf a1 s) fun v3 s2 =>
  b1 (F_X0_isBestSaidIn s2 v3.toInt64 a2 a3) fun v5 =>
  if v5 = 0 ∨ v5 = 1 then
    some (v5, s2)
  else none
set_option maxRecDepth 4000 in
theorem k_X0_saysIn_r {N : Nat} {xs : Nat → Int32} (d : Nat) {r : Option Value × mH} {s : mG} {a1 : Int32} {a2 : Int32} {a3 : Int32} {τ : (Int32 × mG)} (hJ : F_X0_saysIn a1 a2 a3 s = some τ) (hC : (fun τ => r = (some (.int τ.1), (SH, τ.2))) τ) : Rn N xs (d + 5) me9 0 [some (.ref 73), some (.int a1), some (.int a2), some (.int a3)] [] (SH, s) r := by
  unfold F_X0_saysIn at hJ
  refine Rn_sq srt9 0 2 (pc' := 2) (ls' := [some (.ref 73), some (.int a1), some (.int a2), some (.int a3)]) (st' := [(.int a1), (.ref 73)]) (h1 := (SH, s)) rfl ?_
  obtain ⟨v3, s2, h1, hJ⟩ := m_b2 hJ
  refine Rn_call srt9 2 rfl rfl rfl ⟨Nat.le_of_ble_eq_true rfl, Nat.le_of_ble_eq_true rfl, rfl, Nat.le_of_ble_eq_true rfl⟩ (k_X0_sureOf (d) h1) (show Rn N xs (d + 5) me9 5 [some (.ref 73), some (.int a1), some (.int a2), some (.int a3)] [(.int v3)] (SH, s2) r from ?_)
  refine Rn_sq srt9 3 3 (pc' := 8) (ls' := [some (.ref 73), some (.int a1), some (.int a2), some (.int a3)]) (st' := [(.int a3), (.int a2), (.long v3.toInt64)]) (h1 := (SH, s2)) rfl ?_
  obtain ⟨v5, h4, hJ⟩ := m_b1 hJ
  refine Rn_call srt9 6 rfl rfl rfl ⟨Nat.le_of_ble_eq_true rfl, Nat.le_of_ble_eq_true rfl, rfl, Nat.le_of_ble_eq_true rfl⟩ (k_X0_isBestSaidIn (d + 4) h4) (show Rn N xs (d + 5) me9 11 [some (.ref 73), some (.int a1), some (.int a2), some (.int a3)] [(.int v5)] (SH, s2) r from ?_)
  obtain ⟨h6, hJ⟩ := m_gp hJ
  rw [← Option.some.inj hJ] at hC
  have hC : r = (some (.int v5), (SH, s2)) := hC
  subst hC
  exact Rn_ret srt9 7 rfl rfl (m_ret_b rfl h6)
theorem k_X0_saysIn {N : Nat} {xs : Nat → Int32} (d : Nat) {s : mG} {a1 : Int32} {a2 : Int32} {a3 : Int32} {τ : (Int32 × mG)} (hJ : F_X0_saysIn a1 a2 a3 s = some τ) : Rn N xs (d + 5) me9 0 [some (.ref 73), some (.int a1), some (.int a2), some (.int a3)] [] (SH, s) (some (.int τ.1), (SH, τ.2)) := k_X0_saysIn_r d hJ rfl
/-! IsHeIn.share(II)I -/
theorem srt191 : m_srt mc191 = true := by decide +kernel
def F_X11_share (s : mG) (a1 : Int32) (a2 : Int32) : Option (Int32) :=
  some ((a1.toInt64 * a2.toInt64) / (cl 1000000)).toInt32
set_option maxRecDepth 4000 in
theorem k_X11_share_r {N : Nat} {xs : Nat → Int32} (d : Nat) {r : Option Value × mH} {s : mG} {a1 : Int32} {a2 : Int32} {τ : (Int32)} (hJ : F_X11_share s a1 a2 = some τ) (hC : (fun τ => r = (some (.int τ), (SH, s))) τ) : Rn N xs (d + 0) me191 0 [some (.int a1), some (.int a2)] [] (SH, s) r := by
  unfold F_X11_share at hJ
  refine Rn_sq srt191 0 6 (pc' := 8) (ls' := [some (.int a1), some (.int a2)]) (st' := [(.long (cl 1000000)), (.long (a1.toInt64 * a2.toInt64))]) (h1 := (SH, s)) rfl ?_
  refine Rn_ev srt191 6 rfl rfl rfl (op_ldiv (by decide)) ?_
  refine Rn_sq srt191 7 1 (pc' := 10) (ls' := [some (.int a1), some (.int a2)]) (st' := [(.int ((a1.toInt64 * a2.toInt64) / (cl 1000000)).toInt32)]) (h1 := (SH, s)) rfl ?_
  rw [← Option.some.inj hJ] at hC
  have hC : r = (some (.int ((a1.toInt64 * a2.toInt64) / (cl 1000000)).toInt32), (SH, s)) := hC
  subst hC
  exact Rn_ret srt191 8 rfl rfl rfl
theorem k_X11_share {N : Nat} {xs : Nat → Int32} (d : Nat) {s : mG} {a1 : Int32} {a2 : Int32} {τ : (Int32)} (hJ : F_X11_share s a1 a2 = some τ) : Rn N xs (d + 0) me191 0 [some (.int a1), some (.int a2)] [] (SH, s) (some (.int τ), (SH, s)) := k_X11_share_r d hJ rfl
/-! IsHeIn$Belief.saidToAll(Z)I -/
theorem srt11 : m_srt mc11 = true := by decide +kernel
def C_X0_saidToAll_7 (N : Nat) (xs : Nat → Int32) (d : Nat) (r : Option Value × mH) (C : (Int32 × mG) → Prop) : ((Int32 × Int32 × Int32 × Int32 × mG) ⊕ (Int32 × mG)) → Prop
  | .inl v => Rn N xs (d + 5) me11 7 [some (.ref 73), some (.int v.1), some (.int v.2.1), some (.int v.2.2.1), some (.int v.2.2.2.1), none, none, none, none] [] (SH, v.2.2.2.2) r
  | .inr a => C a
def F_X0_saidToAll_125 (x1 : Int32) (x2 : Int32) (x4 : Int32) (y0 : Int32) (y1 : Int32) (s : mG) : Option ((Int32 × Int32 × Int32 × Int32 × mG) ⊕ (Int32 × mG)) :=
  some (Sum.inl (x1, x2, (y0 + y1), (x4 + ci 1), s))
set_option maxRecDepth 4000 in
theorem k_X0_saidToAll_125 {N : Nat} {xs : Nat → Int32} (d : Nat) {r : Option Value × mH} {s : mG} {x1 : Int32} {x2 : Int32} {x4 : Int32} {y0 : Int32} {y1 : Int32} {τ : ((Int32 × Int32 × Int32 × Int32 × mG) ⊕ (Int32 × mG))} (hJ : F_X0_saidToAll_125 x1 x2 x4 y0 y1 s = some τ) (hC : (C_X0_saidToAll_7 N xs d r (fun τ => r = (some (.int τ.1), (SH, τ.2)))) τ) : Rn N xs (d + 5) me11 125 [some (.ref 73), some (.int x1), some (.int x2), none, some (.int x4), none, none, none, none] [(.int y1), (.int y0)] (SH, s) r := by
  unfold F_X0_saidToAll_125 at hJ
  refine Rn_sq srt11 63 4 (pc' := 7) (ls' := [some (.ref 73), some (.int x1), some (.int x2), some (.int (y0 + y1)), some (.int (x4 + ci 1)), none, none, none, none]) (st' := []) (h1 := (SH, s)) rfl ?_
  rw [← Option.some.inj hJ] at hC
  exact hC
def F_X0_saidToAll_97 (x1 : Int32) (x3 : Int32) (x4 : Int32) (x5 : Int32) (x6 : Int32) (x7 : Int32) (x8 : Int32) (y0 : Int32) (y1 : Int32) (s : mG) : Option ((Int32 × Int32 × Int32 × Int32 × mG) ⊕ (Int32 × mG)) :=
  if x8 = 0 then
    b1 (F_X11_share s x7 x5) fun v17 =>
    F_X0_saidToAll_125 x1 (y0 ||| y1) x4 x3 v17 s
  else
    b1 (F_X11_share s x6 ((ci 1000000) - x5)) fun v19 =>
    F_X0_saidToAll_125 x1 (y0 ||| y1) x4 x3 v19 s
set_option maxRecDepth 4000 in
theorem k_X0_saidToAll_97 {N : Nat} {xs : Nat → Int32} (d : Nat) {r : Option Value × mH} {s : mG} {x1 : Int32} {x3 : Int32} {x4 : Int32} {x5 : Int32} {x6 : Int32} {x7 : Int32} {x8 : Int32} {y0 : Int32} {y1 : Int32} {τ : ((Int32 × Int32 × Int32 × Int32 × mG) ⊕ (Int32 × mG))} (hJ : F_X0_saidToAll_97 x1 x3 x4 x5 x6 x7 x8 y0 y1 s = some τ) (hC : (C_X0_saidToAll_7 N xs d r (fun τ => r = (some (.int τ.1), (SH, τ.2)))) τ) : Rn N xs (d + 5) me11 97 [some (.ref 73), some (.int x1), none, some (.int x3), some (.int x4), some (.int x5), some (.int x6), some (.int x7), some (.int x8)] [(.int y1), (.int y0)] (SH, s) r := by
  unfold F_X0_saidToAll_97 at hJ
  refine Rn_sq srt11 49 5 (pc' := (if x8 = 0 then 118 else 105)) (ls' := [some (.ref 73), some (.int x1), some (.int (y0 ||| y1)), some (.int x3), some (.int x4), some (.int x5), some (.int x6), some (.int x7), some (.int x8)]) (st' := [(.int x3)]) (h1 := (SH, s)) rfl (Rn_if (fun h15 => ?_) (fun h15 => ?_))
  · replace hJ := m_ifp h15 hJ
    refine Rn_sq srt11 60 2 (pc' := 122) (ls' := [some (.ref 73), some (.int x1), some (.int (y0 ||| y1)), some (.int x3), some (.int x4), some (.int x5), some (.int x6), some (.int x7), some (.int x8)]) (st' := [(.int x5), (.int x7), (.int x3)]) (h1 := (SH, s)) rfl ?_
    obtain ⟨v17, h16, hJ⟩ := m_b1 hJ
    refine Rn_call srt11 62 rfl rfl rfl ⟨Nat.le_of_ble_eq_true rfl, Nat.le_of_ble_eq_true rfl, rfl, Nat.le_of_ble_eq_true rfl⟩ (k_X11_share (d + 4) h16) (show Rn N xs (d + 5) me11 125 [some (.ref 73), some (.int x1), some (.int (y0 ||| y1)), some (.int x3), some (.int x4), some (.int x5), some (.int x6), some (.int x7), some (.int x8)] [(.int v17), (.int x3)] (SH, s) r from ?_)
    exact Rn_weaken (a := [some (.ref 73), some (.int x1), some (.int (y0 ||| y1)), none, some (.int x4), none, none, none, none]) (b := [some (.ref 73), some (.int x1), some (.int (y0 ||| y1)), some (.int x3), some (.int x4), some (.int x5), some (.int x6), some (.int x7), some (.int x8)]) (And.intro rfl (And.intro rfl (And.intro rfl (And.intro rfl trivial)))) rfl (k_X0_saidToAll_125 d hJ hC)
  · replace hJ := m_ifn h15 hJ
    refine Rn_sq srt11 54 4 (pc' := 112) (ls' := [some (.ref 73), some (.int x1), some (.int (y0 ||| y1)), some (.int x3), some (.int x4), some (.int x5), some (.int x6), some (.int x7), some (.int x8)]) (st' := [(.int ((ci 1000000) - x5)), (.int x6), (.int x3)]) (h1 := (SH, s)) rfl ?_
    obtain ⟨v19, h18, hJ⟩ := m_b1 hJ
    refine Rn_call srt11 58 rfl rfl rfl ⟨Nat.le_of_ble_eq_true rfl, Nat.le_of_ble_eq_true rfl, rfl, Nat.le_of_ble_eq_true rfl⟩ (k_X11_share (d + 4) h18) (show Rn N xs (d + 5) me11 115 [some (.ref 73), some (.int x1), some (.int (y0 ||| y1)), some (.int x3), some (.int x4), some (.int x5), some (.int x6), some (.int x7), some (.int x8)] [(.int v19), (.int x3)] (SH, s) r from ?_)
    refine Rn_sq srt11 59 1 (pc' := 125) (ls' := [some (.ref 73), some (.int x1), some (.int (y0 ||| y1)), some (.int x3), some (.int x4), some (.int x5), some (.int x6), some (.int x7), some (.int x8)]) (st' := [(.int v19), (.int x3)]) (h1 := (SH, s)) rfl ?_
    exact Rn_weaken (a := [some (.ref 73), some (.int x1), some (.int (y0 ||| y1)), none, some (.int x4), none, none, none, none]) (b := [some (.ref 73), some (.int x1), some (.int (y0 ||| y1)), some (.int x3), some (.int x4), some (.int x5), some (.int x6), some (.int x7), some (.int x8)]) (And.intro rfl (And.intro rfl (And.intro rfl (And.intro rfl trivial)))) rfl (k_X0_saidToAll_125 d hJ hC)
def F_X0_saidToAll_B7 (x1 : Int32) (x2 : Int32) (x3 : Int32) (x4 : Int32) (s : mG) : Option ((Int32 × Int32 × Int32 × Int32 × mG) ⊕ (Int32 × mG)) :=
  if (s.1 16 3) ≤ x4 then
    if x1 = 0 then
      some (Sum.inr (x2, s))
    else
      some (Sum.inr (x3, s))
  else
    b1 (F_X10_at 16 s x4 (ci 0)) fun v4 =>
    b2 (F_X0_sureOf v4 s) fun v7 s6 =>
    b1 (F_X10_at 16 s6 x4 (ci 1)) fun v9 =>
    b1 (F_X10_at 16 s6 x4 (ci 2)) fun v11 =>
    b1 (F_X0_isBestSaidIn s6 v7.toInt64 v9 v11) fun v13 =>
    if v13 = 0 then
      F_X0_saidToAll_97 x1 x3 x4 v7 v9 v11 v13 x2 (ci 0) s6
    else
      F_X0_saidToAll_97 x1 x3 x4 v7 v9 v11 v13 x2 ((ci 1) <<< (x4 &&& 31)) s6
set_option maxRecDepth 4000 in
theorem k_X0_saidToAll_B7 {N : Nat} {xs : Nat → Int32} (d : Nat) {r : Option Value × mH} {s : mG} {x1 : Int32} {x2 : Int32} {x3 : Int32} {x4 : Int32} {τ : ((Int32 × Int32 × Int32 × Int32 × mG) ⊕ (Int32 × mG))} (hJ : F_X0_saidToAll_B7 x1 x2 x3 x4 s = some τ) (hC : (C_X0_saidToAll_7 N xs d r (fun τ => r = (some (.int τ.1), (SH, τ.2)))) τ) : Rn N xs (d + 5) me11 7 [some (.ref 73), some (.int x1), some (.int x2), some (.int x3), some (.int x4), none, none, none, none] [] (SH, s) r := by
  unfold F_X0_saidToAll_B7 at hJ
  refine Rn_sq srt11 6 6 (pc' := (if (s.1 16 3) ≤ x4 then 133 else 22)) (ls' := [some (.ref 73), some (.int x1), some (.int x2), some (.int x3), some (.int x4), none, none, none, none]) (st' := []) (h1 := (SH, s)) rfl (Rn_if (fun h1 => ?_) (fun h1 => ?_))
  · replace hJ := m_ifp h1 hJ
    refine Rn_sq srt11 67 2 (pc' := (if x1 = 0 then 141 else 137)) (ls' := [some (.ref 73), some (.int x1), some (.int x2), some (.int x3), some (.int x4), none, none, none, none]) (st' := []) (h1 := (SH, s)) rfl (Rn_if (fun h2 => ?_) (fun h2 => ?_))
    · replace hJ := m_ifp h2 hJ
      refine Rn_sq srt11 71 1 (pc' := 142) (ls' := [some (.ref 73), some (.int x1), some (.int x2), some (.int x3), some (.int x4), none, none, none, none]) (st' := [(.int x2)]) (h1 := (SH, s)) rfl ?_
      rw [← Option.some.inj hJ] at hC
      have hC : r = (some (.int x2), (SH, s)) := hC
      subst hC
      exact Rn_ret srt11 72 rfl rfl rfl
    · replace hJ := m_ifn h2 hJ
      refine Rn_sq srt11 69 2 (pc' := 142) (ls' := [some (.ref 73), some (.int x1), some (.int x2), some (.int x3), some (.int x4), none, none, none, none]) (st' := [(.int x3)]) (h1 := (SH, s)) rfl ?_
      rw [← Option.some.inj hJ] at hC
      have hC : r = (some (.int x3), (SH, s)) := hC
      subst hC
      exact Rn_ret srt11 72 rfl rfl rfl
  · replace hJ := m_ifn h1 hJ
    refine Rn_sq srt11 12 6 (pc' := 33) (ls' := [some (.ref 73), some (.int x1), some (.int x2), some (.int x3), some (.int x4), none, none, none, none]) (st' := [(.int (ci 0)), (.int x4), (.ref 16), (.ref 73)]) (h1 := (SH, s)) rfl ?_
    obtain ⟨v4, h3, hJ⟩ := m_b1 hJ
    refine Rn_call srt11 18 rfl rfl rfl ⟨Nat.le_of_ble_eq_true rfl, Nat.le_of_ble_eq_true rfl, rfl, Nat.le_of_ble_eq_true rfl⟩ (k_X10_at 16 (d + 4) isT_16 h3) (show Rn N xs (d + 5) me11 36 [some (.ref 73), some (.int x1), some (.int x2), some (.int x3), some (.int x4), none, none, none, none] [(.int v4), (.ref 73)] (SH, s) r from ?_)
    obtain ⟨v7, s6, h5, hJ⟩ := m_b2 hJ
    refine Rn_call srt11 19 rfl rfl rfl ⟨Nat.le_of_ble_eq_true rfl, Nat.le_of_ble_eq_true rfl, rfl, Nat.le_of_ble_eq_true rfl⟩ (k_X0_sureOf (d) h5) (show Rn N xs (d + 5) me11 39 [some (.ref 73), some (.int x1), some (.int x2), some (.int x3), some (.int x4), none, none, none, none] [(.int v7)] (SH, s6) r from ?_)
    refine Rn_sq srt11 20 6 (pc' := 51) (ls' := [some (.ref 73), some (.int x1), some (.int x2), some (.int x3), some (.int x4), some (.int v7), none, none, none]) (st' := [(.int (ci 1)), (.int x4), (.ref 16)]) (h1 := (SH, s6)) rfl ?_
    obtain ⟨v9, h8, hJ⟩ := m_b1 hJ
    refine Rn_call srt11 26 rfl rfl rfl ⟨Nat.le_of_ble_eq_true rfl, Nat.le_of_ble_eq_true rfl, rfl, Nat.le_of_ble_eq_true rfl⟩ (k_X10_at 16 (d + 4) isT_16 h8) (show Rn N xs (d + 5) me11 54 [some (.ref 73), some (.int x1), some (.int x2), some (.int x3), some (.int x4), some (.int v7), none, none, none] [(.int v9)] (SH, s6) r from ?_)
    refine Rn_sq srt11 27 6 (pc' := 66) (ls' := [some (.ref 73), some (.int x1), some (.int x2), some (.int x3), some (.int x4), some (.int v7), some (.int v9), none, none]) (st' := [(.int (ci 2)), (.int x4), (.ref 16)]) (h1 := (SH, s6)) rfl ?_
    obtain ⟨v11, h10, hJ⟩ := m_b1 hJ
    refine Rn_call srt11 33 rfl rfl rfl ⟨Nat.le_of_ble_eq_true rfl, Nat.le_of_ble_eq_true rfl, rfl, Nat.le_of_ble_eq_true rfl⟩ (k_X10_at 16 (d + 4) isT_16 h10) (show Rn N xs (d + 5) me11 69 [some (.ref 73), some (.int x1), some (.int x2), some (.int x3), some (.int x4), some (.int v7), some (.int v9), none, none] [(.int v11)] (SH, s6) r from ?_)
    refine Rn_sq srt11 34 5 (pc' := 78) (ls' := [some (.ref 73), some (.int x1), some (.int x2), some (.int x3), some (.int x4), some (.int v7), some (.int v9), some (.int v11), none]) (st' := [(.int v11), (.int v9), (.long v7.toInt64)]) (h1 := (SH, s6)) rfl ?_
    obtain ⟨v13, h12, hJ⟩ := m_b1 hJ
    refine Rn_call srt11 39 rfl rfl rfl ⟨Nat.le_of_ble_eq_true rfl, Nat.le_of_ble_eq_true rfl, rfl, Nat.le_of_ble_eq_true rfl⟩ (k_X0_isBestSaidIn (d + 4) h12) (show Rn N xs (d + 5) me11 81 [some (.ref 73), some (.int x1), some (.int x2), some (.int x3), some (.int x4), some (.int v7), some (.int v9), some (.int v11), none] [(.int v13)] (SH, s6) r from ?_)
    refine Rn_sq srt11 40 4 (pc' := (if v13 = 0 then 96 else 89)) (ls' := [some (.ref 73), some (.int x1), some (.int x2), some (.int x3), some (.int x4), some (.int v7), some (.int v9), some (.int v11), some (.int v13)]) (st' := [(.int x2)]) (h1 := (SH, s6)) rfl (Rn_if (fun h14 => ?_) (fun h14 => ?_))
    · replace hJ := m_ifp h14 hJ
      refine Rn_sq srt11 48 1 (pc' := 97) (ls' := [some (.ref 73), some (.int x1), some (.int x2), some (.int x3), some (.int x4), some (.int v7), some (.int v9), some (.int v11), some (.int v13)]) (st' := [(.int (ci 0)), (.int x2)]) (h1 := (SH, s6)) rfl ?_
      exact Rn_weaken (a := [some (.ref 73), some (.int x1), none, some (.int x3), some (.int x4), some (.int v7), some (.int v9), some (.int v11), some (.int v13)]) (b := [some (.ref 73), some (.int x1), some (.int x2), some (.int x3), some (.int x4), some (.int v7), some (.int v9), some (.int v11), some (.int v13)]) (And.intro rfl (And.intro rfl (And.intro rfl (And.intro rfl (And.intro rfl (And.intro rfl (And.intro rfl (And.intro rfl trivial)))))))) rfl (k_X0_saidToAll_97 d hJ hC)
    · replace hJ := m_ifn h14 hJ
      refine Rn_sq srt11 44 4 (pc' := 97) (ls' := [some (.ref 73), some (.int x1), some (.int x2), some (.int x3), some (.int x4), some (.int v7), some (.int v9), some (.int v11), some (.int v13)]) (st' := [(.int ((ci 1) <<< (x4 &&& 31))), (.int x2)]) (h1 := (SH, s6)) rfl ?_
      exact Rn_weaken (a := [some (.ref 73), some (.int x1), none, some (.int x3), some (.int x4), some (.int v7), some (.int v9), some (.int v11), some (.int v13)]) (b := [some (.ref 73), some (.int x1), some (.int x2), some (.int x3), some (.int x4), some (.int v7), some (.int v9), some (.int v11), some (.int v13)]) (And.intro rfl (And.intro rfl (And.intro rfl (And.intro rfl (And.intro rfl (And.intro rfl (And.intro rfl (And.intro rfl trivial)))))))) rfl (k_X0_saidToAll_97 d hJ hC)
def F_X0_saidToAll_L7 (x1 : Int32) (x2 : Int32) (x3 : Int32) (x4 : Int32) (s : mG) : Option (Int32 × mG) := whl (fun (v : (Int32 × Int32 × Int32 × Int32 × mG)) => F_X0_saidToAll_B7 v.1 v.2.1 v.2.2.1 v.2.2.2.1 v.2.2.2.2) (x1, x2, x3, x4, s)
theorem k_X0_saidToAll_L7 {N : Nat} {xs : Nat → Int32} (d : Nat) {r : Option Value × mH} {s : mG} {x1 : Int32} {x2 : Int32} {x3 : Int32} {x4 : Int32} {τ : (Int32 × mG)} (hJ : F_X0_saidToAll_L7 x1 x2 x3 x4 s = some τ) (hC : (fun τ => r = (some (.int τ.1), (SH, τ.2))) τ) : Rn N xs (d + 5) me11 7 [some (.ref 73), some (.int x1), some (.int x2), some (.int x3), some (.int x4), none, none, none, none] [] (SH, s) r :=
  whl_link (P := fun (v : (Int32 × Int32 × Int32 × Int32 × mG)) => Rn N xs (d + 5) me11 7 [some (.ref 73), some (.int v.1), some (.int v.2.1), some (.int v.2.2.1), some (.int v.2.2.2.1), none, none, none, none] [] (SH, v.2.2.2.2) r) (C := (C_X0_saidToAll_7 N xs d r (fun τ => r = (some (.int τ.1), (SH, τ.2))))) (fun v τ h1 h2 => k_X0_saidToAll_B7 d h1 h2) (fun _ h => h) (fun _ h => h) _ _ hJ hC
def F_X0_saidToAll (a1 : Int32) (s : mG) : Option (Int32 × mG) :=
  F_X0_saidToAll_L7 a1 (ci 0) (ci 0) (ci 0) s
set_option maxRecDepth 4000 in
theorem k_X0_saidToAll_r {N : Nat} {xs : Nat → Int32} (d : Nat) {r : Option Value × mH} {s : mG} {a1 : Int32} {τ : (Int32 × mG)} (hJ : F_X0_saidToAll a1 s = some τ) (hC : (fun τ => r = (some (.int τ.1), (SH, τ.2))) τ) : Rn N xs (d + 5) me11 0 [some (.ref 73), some (.int a1), none, none, none, none, none, none, none] [] (SH, s) r := by
  unfold F_X0_saidToAll at hJ
  refine Rn_sq srt11 0 6 (pc' := 7) (ls' := [some (.ref 73), some (.int a1), some (.int (ci 0)), some (.int (ci 0)), some (.int (ci 0)), none, none, none, none]) (st' := []) (h1 := (SH, s)) rfl ?_
  exact (k_X0_saidToAll_L7 d hJ hC)
theorem k_X0_saidToAll {N : Nat} {xs : Nat → Int32} (d : Nat) {s : mG} {a1 : Int32} {τ : (Int32 × mG)} (hJ : F_X0_saidToAll a1 s = some τ) : Rn N xs (d + 5) me11 0 [some (.ref 73), some (.int a1), none, none, none, none, none, none, none] [] (SH, s) (some (.int τ.1), (SH, τ.2)) := k_X0_saidToAll_r d hJ rfl
/-! IsHeIn$Belief.weighAll()V -/
theorem srt12 : m_srt mc12 = true := by decide +kernel
def C_X0_weighAll_2 (N : Nat) (xs : Nat → Int32) (d : Nat) (r : Option Value × mH) (C : (mG) → Prop) : ((Int32 × mG) ⊕ (mG)) → Prop
  | .inl v => Rn N xs (d + 4) me12 2 [some (.ref 73), some (.int v.1)] [] (SH, v.2) r
  | .inr a => C a
def F_X0_weighAll_B2 (x1 : Int32) (s : mG) : Option ((Int32 × mG) ⊕ (mG)) :=
  if (s.1 2 3) ≤ x1 then
    some (Sum.inr s)
  else
    b1 (F_X0_glanceAt x1 s) fun s3 =>
    b2 (F_X0_sureByGlance x1 s3) fun v6 s5 =>
    b1 (F_X11_put 76 x1 v6 s5) fun s8 =>
    some (Sum.inl ((x1 + ci 1), s8))
set_option maxRecDepth 4000 in
theorem k_X0_weighAll_B2 {N : Nat} {xs : Nat → Int32} (d : Nat) {r : Option Value × mH} {s : mG} {x1 : Int32} {τ : ((Int32 × mG) ⊕ (mG))} (hJ : F_X0_weighAll_B2 x1 s = some τ) (hC : (C_X0_weighAll_2 N xs d r (fun τ => r = (none, (SH, τ)))) τ) : Rn N xs (d + 4) me12 2 [some (.ref 73), some (.int x1)] [] (SH, s) r := by
  unfold F_X0_weighAll_B2 at hJ
  refine Rn_sq srt12 2 6 (pc' := (if (s.1 2 3) ≤ x1 then 40 else 16)) (ls' := [some (.ref 73), some (.int x1)]) (st' := []) (h1 := (SH, s)) rfl (Rn_if (fun h1 => ?_) (fun h1 => ?_))
  · replace hJ := m_ifp h1 hJ
    rw [← Option.some.inj hJ] at hC
    have hC : r = (none, (SH, s)) := hC
    subst hC
    exact Rn_ret srt12 20 rfl rfl rfl
  · replace hJ := m_ifn h1 hJ
    refine Rn_sq srt12 8 2 (pc' := 18) (ls' := [some (.ref 73), some (.int x1)]) (st' := [(.int x1), (.ref 73)]) (h1 := (SH, s)) rfl ?_
    obtain ⟨s3, h2, hJ⟩ := m_b1 hJ
    refine Rn_call srt12 10 rfl rfl rfl ⟨Nat.le_of_ble_eq_true rfl, Nat.le_of_ble_eq_true rfl, rfl, Nat.le_of_ble_eq_true rfl⟩ (k_X0_glanceAt (d + 2) h2) (show Rn N xs (d + 4) me12 21 [some (.ref 73), some (.int x1)] [] (SH, s3) r from ?_)
    refine Rn_sq srt12 11 5 (pc' := 28) (ls' := [some (.ref 73), some (.int x1)]) (st' := [(.int x1), (.ref 73), (.int x1), (.ref 76)]) (h1 := (SH, s3)) rfl ?_
    obtain ⟨v6, s5, h4, hJ⟩ := m_b2 hJ
    refine Rn_call srt12 16 rfl rfl rfl ⟨Nat.le_of_ble_eq_true rfl, Nat.le_of_ble_eq_true rfl, rfl, Nat.le_of_ble_eq_true rfl⟩ (k_X0_sureByGlance (d) h4) (show Rn N xs (d + 4) me12 31 [some (.ref 73), some (.int x1)] [(.int v6), (.int x1), (.ref 76)] (SH, s5) r from ?_)
    obtain ⟨s8, h7, hJ⟩ := m_b1 hJ
    refine Rn_call srt12 17 rfl rfl rfl ⟨Nat.le_of_ble_eq_true rfl, Nat.le_of_ble_eq_true rfl, rfl, Nat.le_of_ble_eq_true rfl⟩ (k_X11_put 76 (d + 3) h7) (show Rn N xs (d + 4) me12 34 [some (.ref 73), some (.int x1)] [] (SH, s8) r from ?_)
    refine Rn_sq srt12 18 2 (pc' := 2) (ls' := [some (.ref 73), some (.int (x1 + ci 1))]) (st' := []) (h1 := (SH, s8)) rfl ?_
    rw [← Option.some.inj hJ] at hC
    exact hC
def F_X0_weighAll_L2 (x1 : Int32) (s : mG) : Option (mG) := whl (fun (v : (Int32 × mG)) => F_X0_weighAll_B2 v.1 v.2) (x1, s)
theorem k_X0_weighAll_L2 {N : Nat} {xs : Nat → Int32} (d : Nat) {r : Option Value × mH} {s : mG} {x1 : Int32} {τ : (mG)} (hJ : F_X0_weighAll_L2 x1 s = some τ) (hC : (fun τ => r = (none, (SH, τ))) τ) : Rn N xs (d + 4) me12 2 [some (.ref 73), some (.int x1)] [] (SH, s) r :=
  whl_link (P := fun (v : (Int32 × mG)) => Rn N xs (d + 4) me12 2 [some (.ref 73), some (.int v.1)] [] (SH, v.2) r) (C := (C_X0_weighAll_2 N xs d r (fun τ => r = (none, (SH, τ))))) (fun v τ h1 h2 => k_X0_weighAll_B2 d h1 h2) (fun _ h => h) (fun _ h => h) _ _ hJ hC
def F_X0_weighAll (s : mG) : Option (mG) :=
  F_X0_weighAll_L2 (ci 0) s
set_option maxRecDepth 4000 in
theorem k_X0_weighAll_r {N : Nat} {xs : Nat → Int32} (d : Nat) {r : Option Value × mH} {s : mG} {τ : (mG)} (hJ : F_X0_weighAll s = some τ) (hC : (fun τ => r = (none, (SH, τ))) τ) : Rn N xs (d + 4) me12 0 [some (.ref 73), none] [] (SH, s) r := by
  unfold F_X0_weighAll at hJ
  refine Rn_sq srt12 0 2 (pc' := 2) (ls' := [some (.ref 73), some (.int (ci 0))]) (st' := []) (h1 := (SH, s)) rfl ?_
  exact (k_X0_weighAll_L2 d hJ hC)
theorem k_X0_weighAll {N : Nat} {xs : Nat → Int32} (d : Nat) {s : mG} {τ : (mG)} (hJ : F_X0_weighAll s = some τ) : Rn N xs (d + 4) me12 0 [some (.ref 73), none] [] (SH, s) (none, (SH, τ)) := k_X0_weighAll_r d hJ rfl
/-! IsHeIn$Belief.sumOfSure()I -/
theorem srt13 : m_srt mc13 = true := by decide +kernel
def C_X0_sumOfSure_8 (N : Nat) (xs : Nat → Int32) (d : Nat) (r : Option Value × mH) (C : (Int32 × mG) → Prop) : ((Int32 × Int32 × mG) ⊕ (Int32 × mG)) → Prop
  | .inl v => Rn N xs (d + 5) me13 8 [some (.ref 73), some (.int v.1), some (.int v.2.1)] [] (SH, v.2.2) r
  | .inr a => C a
def F_X0_sumOfSure_B8 (x1 : Int32) (x2 : Int32) (s : mG) : Option ((Int32 × Int32 × mG) ⊕ (Int32 × mG)) :=
  if (s.1 2 3) ≤ x2 then
    some (Sum.inr ((x1 / (ci 1000000)), s))
  else
    b1 (F_X11_cell 76 s x2) fun v5 =>
    some (Sum.inl ((x1 + v5), (x2 + ci 1), s))
set_option maxRecDepth 4000 in
theorem k_X0_sumOfSure_B8 {N : Nat} {xs : Nat → Int32} (d : Nat) {r : Option Value × mH} {s : mG} {x1 : Int32} {x2 : Int32} {τ : ((Int32 × Int32 × mG) ⊕ (Int32 × mG))} (hJ : F_X0_sumOfSure_B8 x1 x2 s = some τ) (hC : (C_X0_sumOfSure_8 N xs d r (fun τ => r = (some (.int τ.1), (SH, τ.2)))) τ) : Rn N xs (d + 5) me13 8 [some (.ref 73), some (.int x1), some (.int x2)] [] (SH, s) r := by
  unfold F_X0_sumOfSure_B8 at hJ
  refine Rn_sq srt13 6 6 (pc' := (if (s.1 2 3) ≤ x2 then 39 else 22)) (ls' := [some (.ref 73), some (.int x1), some (.int x2)]) (st' := []) (h1 := (SH, s)) rfl (Rn_if (fun h3 => ?_) (fun h3 => ?_))
  · replace hJ := m_ifp h3 hJ
    refine Rn_sq srt13 21 2 (pc' := 42) (ls' := [some (.ref 73), some (.int x1), some (.int x2)]) (st' := [(.int (ci 1000000)), (.int x1)]) (h1 := (SH, s)) rfl ?_
    refine Rn_ev srt13 23 rfl rfl rfl (op_idiv (by decide)) ?_
    rw [← Option.some.inj hJ] at hC
    have hC : r = (some (.int (x1 / (ci 1000000))), (SH, s)) := hC
    subst hC
    exact Rn_ret srt13 24 rfl rfl rfl
  · replace hJ := m_ifn h3 hJ
    refine Rn_sq srt13 12 4 (pc' := 28) (ls' := [some (.ref 73), some (.int x1), some (.int x2)]) (st' := [(.int x2), (.ref 76), (.int x1)]) (h1 := (SH, s)) rfl ?_
    obtain ⟨v5, h4, hJ⟩ := m_b1 hJ
    refine Rn_call srt13 16 rfl rfl rfl ⟨Nat.le_of_ble_eq_true rfl, Nat.le_of_ble_eq_true rfl, rfl, Nat.le_of_ble_eq_true rfl⟩ (k_X11_cell 76 (d + 4) h4) (show Rn N xs (d + 5) me13 31 [some (.ref 73), some (.int x1), some (.int x2)] [(.int v5), (.int x1)] (SH, s) r from ?_)
    refine Rn_sq srt13 17 4 (pc' := 8) (ls' := [some (.ref 73), some (.int (x1 + v5)), some (.int (x2 + ci 1))]) (st' := []) (h1 := (SH, s)) rfl ?_
    rw [← Option.some.inj hJ] at hC
    exact hC
def F_X0_sumOfSure_L8 (x1 : Int32) (x2 : Int32) (s : mG) : Option (Int32 × mG) := whl (fun (v : (Int32 × Int32 × mG)) => F_X0_sumOfSure_B8 v.1 v.2.1 v.2.2) (x1, x2, s)
theorem k_X0_sumOfSure_L8 {N : Nat} {xs : Nat → Int32} (d : Nat) {r : Option Value × mH} {s : mG} {x1 : Int32} {x2 : Int32} {τ : (Int32 × mG)} (hJ : F_X0_sumOfSure_L8 x1 x2 s = some τ) (hC : (fun τ => r = (some (.int τ.1), (SH, τ.2))) τ) : Rn N xs (d + 5) me13 8 [some (.ref 73), some (.int x1), some (.int x2)] [] (SH, s) r :=
  whl_link (P := fun (v : (Int32 × Int32 × mG)) => Rn N xs (d + 5) me13 8 [some (.ref 73), some (.int v.1), some (.int v.2.1)] [] (SH, v.2.2) r) (C := (C_X0_sumOfSure_8 N xs d r (fun τ => r = (some (.int τ.1), (SH, τ.2))))) (fun v τ h1 h2 => k_X0_sumOfSure_B8 d h1 h2) (fun _ h => h) (fun _ h => h) _ _ hJ hC
def F_X0_sumOfSure (s : mG) : Option (Int32 × mG) :=
  b1 (F_X0_weighAll s) fun s2 =>
  F_X0_sumOfSure_L8 (ci 0) (ci 0) s2
set_option maxRecDepth 4000 in
theorem k_X0_sumOfSure_r {N : Nat} {xs : Nat → Int32} (d : Nat) {r : Option Value × mH} {s : mG} {τ : (Int32 × mG)} (hJ : F_X0_sumOfSure s = some τ) (hC : (fun τ => r = (some (.int τ.1), (SH, τ.2))) τ) : Rn N xs (d + 5) me13 0 [some (.ref 73), none, none] [] (SH, s) r := by
  unfold F_X0_sumOfSure at hJ
  refine Rn_sq srt13 0 1 (pc' := 1) (ls' := [some (.ref 73), none, none]) (st' := [(.ref 73)]) (h1 := (SH, s)) rfl ?_
  obtain ⟨s2, h1, hJ⟩ := m_b1 hJ
  refine Rn_call srt13 1 rfl rfl rfl ⟨Nat.le_of_ble_eq_true rfl, Nat.le_of_ble_eq_true rfl, rfl, Nat.le_of_ble_eq_true rfl⟩ (k_X0_weighAll (d) h1) (show Rn N xs (d + 5) me13 4 [some (.ref 73), none, none] [] (SH, s2) r from ?_)
  refine Rn_sq srt13 2 4 (pc' := 8) (ls' := [some (.ref 73), some (.int (ci 0)), some (.int (ci 0))]) (st' := []) (h1 := (SH, s2)) rfl ?_
  exact (k_X0_sumOfSure_L8 d hJ hC)
theorem k_X0_sumOfSure {N : Nat} {xs : Nat → Int32} (d : Nat) {s : mG} {τ : (Int32 × mG)} (hJ : F_X0_sumOfSure s = some τ) : Rn N xs (d + 5) me13 0 [some (.ref 73), none, none] [] (SH, s) (some (.int τ.1), (SH, τ.2)) := k_X0_sumOfSure_r d hJ rfl
/-! IsHeIn$Belief.countChance(I)V -/
theorem srt15 : m_srt mc15 = true := by decide +kernel
def C_X0_countChance_8 (N : Nat) (xs : Nat → Int32) (d : Nat) (r : Option Value × mH) (C : (mG) → Prop) : ((Int32 × Int32 × mG) ⊕ (mG)) → Prop
  | .inl v => Rn N xs (d + 1) me15 8 [some (.ref 73), some (.int v.1), some (.int v.2.1), none] [] (SH, v.2.2) r
  | .inr a => C a
def F_X0_countChance_B8 (x1 : Int32) (x2 : Int32) (s : mG) : Option ((Int32 × Int32 × mG) ⊕ (mG)) :=
  if x2 < 0 then
    some (Sum.inr s)
  else
    b1 (F_X11_cell 75 s (x2 - (ci 1))) fun v3 =>
    b1 (F_X11_share s v3 x1) fun v5 =>
    b1 (F_X11_cell 75 s x2) fun v7 =>
    b1 (F_X11_share s v7 ((ci 1000000) - x1)) fun v9 =>
    b1 (F_X11_put 75 x2 (v9 + v5) s) fun s11 =>
    some (Sum.inl (x1, (x2 + ci (-1)), s11))
set_option maxRecDepth 4000 in
theorem k_X0_countChance_B8 {N : Nat} {xs : Nat → Int32} (d : Nat) {r : Option Value × mH} {s : mG} {x1 : Int32} {x2 : Int32} {τ : ((Int32 × Int32 × mG) ⊕ (mG))} (hJ : F_X0_countChance_B8 x1 x2 s = some τ) (hC : (C_X0_countChance_8 N xs d r (fun τ => r = (none, (SH, τ)))) τ) : Rn N xs (d + 1) me15 8 [some (.ref 73), some (.int x1), some (.int x2), none] [] (SH, s) r := by
  unfold F_X0_countChance_B8 at hJ
  refine Rn_sq srt15 6 2 (pc' := (if x2 < 0 then 58 else 12)) (ls' := [some (.ref 73), some (.int x1), some (.int x2), none]) (st' := []) (h1 := (SH, s)) rfl (Rn_if (fun h1 => ?_) (fun h1 => ?_))
  · replace hJ := m_ifp h1 hJ
    rw [← Option.some.inj hJ] at hC
    have hC : r = (none, (SH, s)) := hC
    subst hC
    exact Rn_ret srt15 33 rfl rfl rfl
  · replace hJ := m_ifn h1 hJ
    refine Rn_sq srt15 8 5 (pc' := 19) (ls' := [some (.ref 73), some (.int x1), some (.int x2), none]) (st' := [(.int (x2 - (ci 1))), (.ref 75)]) (h1 := (SH, s)) rfl ?_
    obtain ⟨v3, h2, hJ⟩ := m_b1 hJ
    refine Rn_call srt15 13 rfl rfl rfl ⟨Nat.le_of_ble_eq_true rfl, Nat.le_of_ble_eq_true rfl, rfl, Nat.le_of_ble_eq_true rfl⟩ (k_X11_cell 75 (d) h2) (show Rn N xs (d + 1) me15 22 [some (.ref 73), some (.int x1), some (.int x2), none] [(.int v3)] (SH, s) r from ?_)
    refine Rn_sq srt15 14 1 (pc' := 23) (ls' := [some (.ref 73), some (.int x1), some (.int x2), none]) (st' := [(.int x1), (.int v3)]) (h1 := (SH, s)) rfl ?_
    obtain ⟨v5, h4, hJ⟩ := m_b1 hJ
    refine Rn_call srt15 15 rfl rfl rfl ⟨Nat.le_of_ble_eq_true rfl, Nat.le_of_ble_eq_true rfl, rfl, Nat.le_of_ble_eq_true rfl⟩ (k_X11_share (d) h4) (show Rn N xs (d + 1) me15 26 [some (.ref 73), some (.int x1), some (.int x2), none] [(.int v5)] (SH, s) r from ?_)
    refine Rn_sq srt15 16 7 (pc' := 37) (ls' := [some (.ref 73), some (.int x1), some (.int x2), some (.int v5)]) (st' := [(.int x2), (.ref 75), (.int x2), (.ref 75)]) (h1 := (SH, s)) rfl ?_
    obtain ⟨v7, h6, hJ⟩ := m_b1 hJ
    refine Rn_call srt15 23 rfl rfl rfl ⟨Nat.le_of_ble_eq_true rfl, Nat.le_of_ble_eq_true rfl, rfl, Nat.le_of_ble_eq_true rfl⟩ (k_X11_cell 75 (d) h6) (show Rn N xs (d + 1) me15 40 [some (.ref 73), some (.int x1), some (.int x2), some (.int v5)] [(.int v7), (.int x2), (.ref 75)] (SH, s) r from ?_)
    refine Rn_sq srt15 24 3 (pc' := 44) (ls' := [some (.ref 73), some (.int x1), some (.int x2), some (.int v5)]) (st' := [(.int ((ci 1000000) - x1)), (.int v7), (.int x2), (.ref 75)]) (h1 := (SH, s)) rfl ?_
    obtain ⟨v9, h8, hJ⟩ := m_b1 hJ
    refine Rn_call srt15 27 rfl rfl rfl ⟨Nat.le_of_ble_eq_true rfl, Nat.le_of_ble_eq_true rfl, rfl, Nat.le_of_ble_eq_true rfl⟩ (k_X11_share (d) h8) (show Rn N xs (d + 1) me15 47 [some (.ref 73), some (.int x1), some (.int x2), some (.int v5)] [(.int v9), (.int x2), (.ref 75)] (SH, s) r from ?_)
    refine Rn_sq srt15 28 2 (pc' := 49) (ls' := [some (.ref 73), some (.int x1), some (.int x2), some (.int v5)]) (st' := [(.int (v9 + v5)), (.int x2), (.ref 75)]) (h1 := (SH, s)) rfl ?_
    obtain ⟨s11, h10, hJ⟩ := m_b1 hJ
    refine Rn_call srt15 30 rfl rfl rfl ⟨Nat.le_of_ble_eq_true rfl, Nat.le_of_ble_eq_true rfl, rfl, Nat.le_of_ble_eq_true rfl⟩ (k_X11_put 75 (d) h10) (show Rn N xs (d + 1) me15 52 [some (.ref 73), some (.int x1), some (.int x2), some (.int v5)] [] (SH, s11) r from ?_)
    refine Rn_sq srt15 31 2 (pc' := 8) (ls' := [some (.ref 73), some (.int x1), some (.int (x2 + ci (-1))), some (.int v5)]) (st' := []) (h1 := (SH, s11)) rfl ?_
    rw [← Option.some.inj hJ] at hC
    exact Rn_weaken (a := [some (.ref 73), some (.int x1), some (.int (x2 + ci (-1))), none]) (b := [some (.ref 73), some (.int x1), some (.int (x2 + ci (-1))), some (.int v5)]) (And.intro rfl (And.intro rfl (And.intro rfl trivial))) rfl hC
def F_X0_countChance_L8 (x1 : Int32) (x2 : Int32) (s : mG) : Option (mG) := whl (fun (v : (Int32 × Int32 × mG)) => F_X0_countChance_B8 v.1 v.2.1 v.2.2) (x1, x2, s)
theorem k_X0_countChance_L8 {N : Nat} {xs : Nat → Int32} (d : Nat) {r : Option Value × mH} {s : mG} {x1 : Int32} {x2 : Int32} {τ : (mG)} (hJ : F_X0_countChance_L8 x1 x2 s = some τ) (hC : (fun τ => r = (none, (SH, τ))) τ) : Rn N xs (d + 1) me15 8 [some (.ref 73), some (.int x1), some (.int x2), none] [] (SH, s) r :=
  whl_link (P := fun (v : (Int32 × Int32 × mG)) => Rn N xs (d + 1) me15 8 [some (.ref 73), some (.int v.1), some (.int v.2.1), none] [] (SH, v.2.2) r) (C := (C_X0_countChance_8 N xs d r (fun τ => r = (none, (SH, τ))))) (fun v τ h1 h2 => k_X0_countChance_B8 d h1 h2) (fun _ h => h) (fun _ h => h) _ _ hJ hC
def F_X0_countChance (a1 : Int32) (s : mG) : Option (mG) :=
  F_X0_countChance_L8 a1 ((cn 13) - (ci 1)) s
set_option maxRecDepth 4000 in
theorem k_X0_countChance_r {N : Nat} {xs : Nat → Int32} (d : Nat) {r : Option Value × mH} {s : mG} {a1 : Int32} {τ : (mG)} (hJ : F_X0_countChance a1 s = some τ) (hC : (fun τ => r = (none, (SH, τ))) τ) : Rn N xs (d + 1) me15 0 [some (.ref 73), some (.int a1), none, none] [] (SH, s) r := by
  unfold F_X0_countChance at hJ
  refine Rn_sq srt15 0 6 (pc' := 8) (ls' := [some (.ref 73), some (.int a1), some (.int ((cn 13) - (ci 1))), none]) (st' := []) (h1 := (SH, s)) rfl ?_
  exact (k_X0_countChance_L8 d hJ hC)
theorem k_X0_countChance {N : Nat} {xs : Nat → Int32} (d : Nat) {s : mG} {a1 : Int32} {τ : (mG)} (hJ : F_X0_countChance a1 s = some τ) : Rn N xs (d + 1) me15 0 [some (.ref 73), some (.int a1), none, none] [] (SH, s) (none, (SH, τ)) := k_X0_countChance_r d hJ rfl
/-! IsHeIn$Belief.countChances(I)V -/
theorem srt14 : m_srt mc14 = true := by decide +kernel
def C_X0_countChances_6 (N : Nat) (xs : Nat → Int32) (d : Nat) (r : Option Value × mH) (C : (mG) → Prop) : ((Int32 × Int32 × mG) ⊕ (mG)) → Prop
  | .inl v => Rn N xs (d + 5) me14 6 [some (.ref 73), some (.int v.1), some (.int v.2.1)] [] (SH, v.2.2) r
  | .inr a => C a
def C_X0_countChances_39 (N : Nat) (xs : Nat → Int32) (d : Nat) (r : Option Value × mH) (C : (mG) → Prop) : ((Int32 × Int32 × mG) ⊕ (mG)) → Prop
  | .inl v => Rn N xs (d + 5) me14 39 [some (.ref 73), some (.int v.1), some (.int v.2.1)] [] (SH, v.2.2) r
  | .inr a => C a
def F_X0_countChances_70 (x1 : Int32) (x2 : Int32) (s : mG) : Option ((Int32 × Int32 × mG) ⊕ (mG)) :=
  some (Sum.inl (x1, (x2 + ci 1), s))
set_option maxRecDepth 4000 in
theorem k_X0_countChances_70 {N : Nat} {xs : Nat → Int32} (d : Nat) {r : Option Value × mH} {s : mG} {x1 : Int32} {x2 : Int32} {τ : ((Int32 × Int32 × mG) ⊕ (mG))} (hJ : F_X0_countChances_70 x1 x2 s = some τ) (hC : (C_X0_countChances_39 N xs d r (fun τ => r = (none, (SH, τ)))) τ) : Rn N xs (d + 5) me14 70 [some (.ref 73), some (.int x1), some (.int x2)] [] (SH, s) r := by
  unfold F_X0_countChances_70 at hJ
  refine Rn_sq srt14 37 2 (pc' := 39) (ls' := [some (.ref 73), some (.int x1), some (.int (x2 + ci 1))]) (st' := []) (h1 := (SH, s)) rfl ?_
  rw [← Option.some.inj hJ] at hC
  exact hC
def F_X0_countChances_B39 (x1 : Int32) (x2 : Int32) (s : mG) : Option ((Int32 × Int32 × mG) ⊕ (mG)) :=
  if (s.1 2 3) ≤ x2 then
    some (Sum.inr s)
  else
    if x2 = x1 then
      F_X0_countChances_70 x1 x2 s
    else
      b1 (F_X11_cell 76 s x2) fun v7 =>
      b1 (F_X0_countChance v7 s) fun s9 =>
      F_X0_countChances_70 x1 x2 s9
set_option maxRecDepth 4000 in
theorem k_X0_countChances_B39 {N : Nat} {xs : Nat → Int32} (d : Nat) {r : Option Value × mH} {s : mG} {x1 : Int32} {x2 : Int32} {τ : ((Int32 × Int32 × mG) ⊕ (mG))} (hJ : F_X0_countChances_B39 x1 x2 s = some τ) (hC : (C_X0_countChances_39 N xs d r (fun τ => r = (none, (SH, τ)))) τ) : Rn N xs (d + 5) me14 39 [some (.ref 73), some (.int x1), some (.int x2)] [] (SH, s) r := by
  unfold F_X0_countChances_B39 at hJ
  refine Rn_sq srt14 22 6 (pc' := (if (s.1 2 3) ≤ x2 then 76 else 53)) (ls' := [some (.ref 73), some (.int x1), some (.int x2)]) (st' := []) (h1 := (SH, s)) rfl (Rn_if (fun h4 => ?_) (fun h4 => ?_))
  · replace hJ := m_ifp h4 hJ
    rw [← Option.some.inj hJ] at hC
    have hC : r = (none, (SH, s)) := hC
    subst hC
    exact Rn_ret srt14 39 rfl rfl rfl
  · replace hJ := m_ifn h4 hJ
    refine Rn_sq srt14 28 3 (pc' := (if x2 = x1 then 70 else 58)) (ls' := [some (.ref 73), some (.int x1), some (.int x2)]) (st' := []) (h1 := (SH, s)) rfl (Rn_if (fun h5 => ?_) (fun h5 => ?_))
    · replace hJ := m_ifp h5 hJ
      exact (k_X0_countChances_70 d hJ hC)
    · replace hJ := m_ifn h5 hJ
      refine Rn_sq srt14 31 4 (pc' := 64) (ls' := [some (.ref 73), some (.int x1), some (.int x2)]) (st' := [(.int x2), (.ref 76), (.ref 73)]) (h1 := (SH, s)) rfl ?_
      obtain ⟨v7, h6, hJ⟩ := m_b1 hJ
      refine Rn_call srt14 35 rfl rfl rfl ⟨Nat.le_of_ble_eq_true rfl, Nat.le_of_ble_eq_true rfl, rfl, Nat.le_of_ble_eq_true rfl⟩ (k_X11_cell 76 (d + 4) h6) (show Rn N xs (d + 5) me14 67 [some (.ref 73), some (.int x1), some (.int x2)] [(.int v7), (.ref 73)] (SH, s) r from ?_)
      obtain ⟨s9, h8, hJ⟩ := m_b1 hJ
      refine Rn_call srt14 36 rfl rfl rfl ⟨Nat.le_of_ble_eq_true rfl, Nat.le_of_ble_eq_true rfl, rfl, Nat.le_of_ble_eq_true rfl⟩ (k_X0_countChance (d + 3) h8) (show Rn N xs (d + 5) me14 70 [some (.ref 73), some (.int x1), some (.int x2)] [] (SH, s9) r from ?_)
      exact (k_X0_countChances_70 d hJ hC)
def F_X0_countChances_L39 (x1 : Int32) (x2 : Int32) (s : mG) : Option (mG) := whl (fun (v : (Int32 × Int32 × mG)) => F_X0_countChances_B39 v.1 v.2.1 v.2.2) (x1, x2, s)
theorem k_X0_countChances_L39 {N : Nat} {xs : Nat → Int32} (d : Nat) {r : Option Value × mH} {s : mG} {x1 : Int32} {x2 : Int32} {τ : (mG)} (hJ : F_X0_countChances_L39 x1 x2 s = some τ) (hC : (fun τ => r = (none, (SH, τ))) τ) : Rn N xs (d + 5) me14 39 [some (.ref 73), some (.int x1), some (.int x2)] [] (SH, s) r :=
  whl_link (P := fun (v : (Int32 × Int32 × mG)) => Rn N xs (d + 5) me14 39 [some (.ref 73), some (.int v.1), some (.int v.2.1)] [] (SH, v.2.2) r) (C := (C_X0_countChances_39 N xs d r (fun τ => r = (none, (SH, τ))))) (fun v τ h1 h2 => k_X0_countChances_B39 d h1 h2) (fun _ h => h) (fun _ h => h) _ _ hJ hC
def F_X0_countChances_30 (x1 : Int32) (x2 : Int32) (y1 : Int32) (y2 : Int32) (s : mG) : Option ((Int32 × Int32 × mG) ⊕ (mG)) :=
  if y1 < 0 ∨ 13 ≤ y1.toNatClampNeg then none else
  let s12 : mG := (mu s.1 75 y1.toNatClampNeg y2, s.2)
  some (Sum.inl (x1, (x2 + ci 1), s12))
set_option maxRecDepth 4000 in
theorem k_X0_countChances_30 {N : Nat} {xs : Nat → Int32} (d : Nat) {r : Option Value × mH} {s : mG} {x1 : Int32} {x2 : Int32} {y1 : Int32} {y2 : Int32} {τ : ((Int32 × Int32 × mG) ⊕ (mG))} (hJ : F_X0_countChances_30 x1 x2 y1 y2 s = some τ) (hC : (C_X0_countChances_6 N xs d r (fun τ => r = (none, (SH, τ)))) τ) : Rn N xs (d + 5) me14 30 [some (.ref 73), some (.int x1), some (.int x2)] [(.int y2), (.int y1), (.ref 75)] (SH, s) r := by
  unfold F_X0_countChances_30 at hJ
  obtain ⟨h11, hJ⟩ := m_gn hJ
  extract_lets +onlyGivenNames s12 at hJ
  refine Rn_ev srt14 17 rfl rfl rfl (op_ias sh75 h11 (k := y1.toNatClampNeg) rfl) ?_
  refine Rn_sq srt14 18 2 (pc' := 6) (ls' := [some (.ref 73), some (.int x1), some (.int (x2 + ci 1))]) (st' := []) (h1 := (SH, s12)) rfl ?_
  rw [← Option.some.inj hJ] at hC
  exact hC
def F_X0_countChances_B6 (x1 : Int32) (x2 : Int32) (s : mG) : Option ((Int32 × Int32 × mG) ⊕ (mG)) :=
  if (cn 13) ≤ x2 then
    b1 (F_X0_countChances_L39 x1 (ci 0) s) fun τ => some (Sum.inr τ)
  else
    if x2 = 0 then
      F_X0_countChances_30 x1 x2 x2 (ci 1000000) s
    else
      F_X0_countChances_30 x1 x2 x2 (ci 0) s
set_option maxRecDepth 4000 in
theorem k_X0_countChances_B6 {N : Nat} {xs : Nat → Int32} (d : Nat) {r : Option Value × mH} {s : mG} {x1 : Int32} {x2 : Int32} {τ : ((Int32 × Int32 × mG) ⊕ (mG))} (hJ : F_X0_countChances_B6 x1 x2 s = some τ) (hC : (C_X0_countChances_6 N xs d r (fun τ => r = (none, (SH, τ)))) τ) : Rn N xs (d + 5) me14 6 [some (.ref 73), some (.int x1), some (.int x2)] [] (SH, s) r := by
  unfold F_X0_countChances_B6 at hJ
  refine Rn_sq srt14 4 5 (pc' := (if (cn 13) ≤ x2 then 37 else 15)) (ls' := [some (.ref 73), some (.int x1), some (.int x2)]) (st' := []) (h1 := (SH, s)) rfl (Rn_if (fun h3 => ?_) (fun h3 => ?_))
  · replace hJ := m_ifp h3 hJ
    refine Rn_sq srt14 20 2 (pc' := 39) (ls' := [some (.ref 73), some (.int x1), some (.int (ci 0))]) (st' := []) (h1 := (SH, s)) rfl ?_
    obtain ⟨τ1, hJ1, hJ⟩ := m_b1 hJ
    rw [← Option.some.inj hJ] at hC
    exact (k_X0_countChances_L39 d hJ1 hC)
  · replace hJ := m_ifn h3 hJ
    refine Rn_sq srt14 9 5 (pc' := (if x2 = 0 then 24 else 29)) (ls' := [some (.ref 73), some (.int x1), some (.int x2)]) (st' := [(.int x2), (.ref 75)]) (h1 := (SH, s)) rfl (Rn_if (fun h10 => ?_) (fun h10 => ?_))
    · replace hJ := m_ifp h10 hJ
      refine Rn_sq srt14 14 2 (pc' := 30) (ls' := [some (.ref 73), some (.int x1), some (.int x2)]) (st' := [(.int (ci 1000000)), (.int x2), (.ref 75)]) (h1 := (SH, s)) rfl ?_
      exact (k_X0_countChances_30 d hJ hC)
    · replace hJ := m_ifn h10 hJ
      refine Rn_sq srt14 16 1 (pc' := 30) (ls' := [some (.ref 73), some (.int x1), some (.int x2)]) (st' := [(.int (ci 0)), (.int x2), (.ref 75)]) (h1 := (SH, s)) rfl ?_
      exact (k_X0_countChances_30 d hJ hC)
def F_X0_countChances_L6 (x1 : Int32) (x2 : Int32) (s : mG) : Option (mG) := whl (fun (v : (Int32 × Int32 × mG)) => F_X0_countChances_B6 v.1 v.2.1 v.2.2) (x1, x2, s)
theorem k_X0_countChances_L6 {N : Nat} {xs : Nat → Int32} (d : Nat) {r : Option Value × mH} {s : mG} {x1 : Int32} {x2 : Int32} {τ : (mG)} (hJ : F_X0_countChances_L6 x1 x2 s = some τ) (hC : (fun τ => r = (none, (SH, τ))) τ) : Rn N xs (d + 5) me14 6 [some (.ref 73), some (.int x1), some (.int x2)] [] (SH, s) r :=
  whl_link (P := fun (v : (Int32 × Int32 × mG)) => Rn N xs (d + 5) me14 6 [some (.ref 73), some (.int v.1), some (.int v.2.1)] [] (SH, v.2.2) r) (C := (C_X0_countChances_6 N xs d r (fun τ => r = (none, (SH, τ))))) (fun v τ h1 h2 => k_X0_countChances_B6 d h1 h2) (fun _ h => h) (fun _ h => h) _ _ hJ hC
def F_X0_countChances (a1 : Int32) (s : mG) : Option (mG) :=
  b1 (F_X0_weighAll s) fun s2 =>
  F_X0_countChances_L6 a1 (ci 0) s2
set_option maxRecDepth 4000 in
theorem k_X0_countChances_r {N : Nat} {xs : Nat → Int32} (d : Nat) {r : Option Value × mH} {s : mG} {a1 : Int32} {τ : (mG)} (hJ : F_X0_countChances a1 s = some τ) (hC : (fun τ => r = (none, (SH, τ))) τ) : Rn N xs (d + 5) me14 0 [some (.ref 73), some (.int a1), none] [] (SH, s) r := by
  unfold F_X0_countChances at hJ
  refine Rn_sq srt14 0 1 (pc' := 1) (ls' := [some (.ref 73), some (.int a1), none]) (st' := [(.ref 73)]) (h1 := (SH, s)) rfl ?_
  obtain ⟨s2, h1, hJ⟩ := m_b1 hJ
  refine Rn_call srt14 1 rfl rfl rfl ⟨Nat.le_of_ble_eq_true rfl, Nat.le_of_ble_eq_true rfl, rfl, Nat.le_of_ble_eq_true rfl⟩ (k_X0_weighAll (d) h1) (show Rn N xs (d + 5) me14 4 [some (.ref 73), some (.int a1), none] [] (SH, s2) r from ?_)
  refine Rn_sq srt14 2 2 (pc' := 6) (ls' := [some (.ref 73), some (.int a1), some (.int (ci 0))]) (st' := []) (h1 := (SH, s2)) rfl ?_
  exact (k_X0_countChances_L6 d hJ hC)
theorem k_X0_countChances {N : Nat} {xs : Nat → Int32} (d : Nat) {s : mG} {a1 : Int32} {τ : (mG)} (hJ : F_X0_countChances a1 s = some τ) : Rn N xs (d + 5) me14 0 [some (.ref 73), some (.int a1), none] [] (SH, s) (none, (SH, τ)) := k_X0_countChances_r d hJ rfl
/-! IsHeIn$Belief.likeliest(Z)I -/
theorem srt16 : m_srt mc16 = true := by decide +kernel
def C_X0_likeliest_9 (N : Nat) (xs : Nat → Int32) (d : Nat) (r : Option Value × mH) (C : (Int32 × mG) → Prop) : ((Int32 × Int32 × Int32 × mG) ⊕ (Int32 × mG)) → Prop
  | .inl v => Rn N xs (d + 6) me16 9 [some (.ref 73), some (.int v.1), some (.int v.2.1), some (.int v.2.2.1)] [] (SH, v.2.2.2) r
  | .inr a => C a
def F_X0_likeliest_47 (x1 : Int32) (x3 : Int32) (y0 : Int32) (s : mG) : Option ((Int32 × Int32 × Int32 × mG) ⊕ (Int32 × mG)) :=
  some (Sum.inl (x1, y0, (x3 + ci 1), s))
set_option maxRecDepth 4000 in
theorem k_X0_likeliest_47 {N : Nat} {xs : Nat → Int32} (d : Nat) {r : Option Value × mH} {s : mG} {x1 : Int32} {x3 : Int32} {y0 : Int32} {τ : ((Int32 × Int32 × Int32 × mG) ⊕ (Int32 × mG))} (hJ : F_X0_likeliest_47 x1 x3 y0 s = some τ) (hC : (C_X0_likeliest_9 N xs d r (fun τ => r = (some (.int τ.1), (SH, τ.2)))) τ) : Rn N xs (d + 6) me16 47 [some (.ref 73), some (.int x1), none, some (.int x3)] [(.int y0)] (SH, s) r := by
  unfold F_X0_likeliest_47 at hJ
  refine Rn_sq srt16 25 3 (pc' := 9) (ls' := [some (.ref 73), some (.int x1), some (.int y0), some (.int (x3 + ci 1))]) (st' := []) (h1 := (SH, s)) rfl ?_
  rw [← Option.some.inj hJ] at hC
  exact hC
def F_X0_likeliest_B9 (x1 : Int32) (x2 : Int32) (x3 : Int32) (s : mG) : Option ((Int32 × Int32 × Int32 × mG) ⊕ (Int32 × mG)) :=
  if (s.1 2 3) < x3 then
    if x1 = 0 then
      some (Sum.inr (x2, s))
    else
      b1 (F_X11_cell 75 s x2) fun v6 =>
      some (Sum.inr (v6, s))
  else
    b1 (F_X11_cell 75 s x3) fun v8 =>
    b1 (F_X11_cell 75 s x2) fun v10 =>
    if v8 ≤ v10 then
      F_X0_likeliest_47 x1 x3 x2 s
    else
      F_X0_likeliest_47 x1 x3 x3 s
set_option maxRecDepth 4000 in
theorem k_X0_likeliest_B9 {N : Nat} {xs : Nat → Int32} (d : Nat) {r : Option Value × mH} {s : mG} {x1 : Int32} {x2 : Int32} {x3 : Int32} {τ : ((Int32 × Int32 × Int32 × mG) ⊕ (Int32 × mG))} (hJ : F_X0_likeliest_B9 x1 x2 x3 s = some τ) (hC : (C_X0_likeliest_9 N xs d r (fun τ => r = (some (.int τ.1), (SH, τ.2)))) τ) : Rn N xs (d + 6) me16 9 [some (.ref 73), some (.int x1), some (.int x2), some (.int x3)] [] (SH, s) r := by
  unfold F_X0_likeliest_B9 at hJ
  refine Rn_sq srt16 7 6 (pc' := (if (s.1 2 3) < x3 then 54 else 23)) (ls' := [some (.ref 73), some (.int x1), some (.int x2), some (.int x3)]) (st' := []) (h1 := (SH, s)) rfl (Rn_if (fun h3 => ?_) (fun h3 => ?_))
  · replace hJ := m_ifp h3 hJ
    refine Rn_sq srt16 28 2 (pc' := (if x1 = 0 then 69 else 58)) (ls' := [some (.ref 73), some (.int x1), some (.int x2), some (.int x3)]) (st' := []) (h1 := (SH, s)) rfl (Rn_if (fun h4 => ?_) (fun h4 => ?_))
    · replace hJ := m_ifp h4 hJ
      refine Rn_sq srt16 35 1 (pc' := 70) (ls' := [some (.ref 73), some (.int x1), some (.int x2), some (.int x3)]) (st' := [(.int x2)]) (h1 := (SH, s)) rfl ?_
      rw [← Option.some.inj hJ] at hC
      have hC : r = (some (.int x2), (SH, s)) := hC
      subst hC
      exact Rn_ret srt16 36 rfl rfl rfl
    · replace hJ := m_ifn h4 hJ
      refine Rn_sq srt16 30 3 (pc' := 63) (ls' := [some (.ref 73), some (.int x1), some (.int x2), some (.int x3)]) (st' := [(.int x2), (.ref 75)]) (h1 := (SH, s)) rfl ?_
      obtain ⟨v6, h5, hJ⟩ := m_b1 hJ
      refine Rn_call srt16 33 rfl rfl rfl ⟨Nat.le_of_ble_eq_true rfl, Nat.le_of_ble_eq_true rfl, rfl, Nat.le_of_ble_eq_true rfl⟩ (k_X11_cell 75 (d + 5) h5) (show Rn N xs (d + 6) me16 66 [some (.ref 73), some (.int x1), some (.int x2), some (.int x3)] [(.int v6)] (SH, s) r from ?_)
      refine Rn_sq srt16 34 1 (pc' := 70) (ls' := [some (.ref 73), some (.int x1), some (.int x2), some (.int x3)]) (st' := [(.int v6)]) (h1 := (SH, s)) rfl ?_
      rw [← Option.some.inj hJ] at hC
      have hC : r = (some (.int v6), (SH, s)) := hC
      subst hC
      exact Rn_ret srt16 36 rfl rfl rfl
  · replace hJ := m_ifn h3 hJ
    refine Rn_sq srt16 13 3 (pc' := 28) (ls' := [some (.ref 73), some (.int x1), some (.int x2), some (.int x3)]) (st' := [(.int x3), (.ref 75)]) (h1 := (SH, s)) rfl ?_
    obtain ⟨v8, h7, hJ⟩ := m_b1 hJ
    refine Rn_call srt16 16 rfl rfl rfl ⟨Nat.le_of_ble_eq_true rfl, Nat.le_of_ble_eq_true rfl, rfl, Nat.le_of_ble_eq_true rfl⟩ (k_X11_cell 75 (d + 5) h7) (show Rn N xs (d + 6) me16 31 [some (.ref 73), some (.int x1), some (.int x2), some (.int x3)] [(.int v8)] (SH, s) r from ?_)
    refine Rn_sq srt16 17 3 (pc' := 36) (ls' := [some (.ref 73), some (.int x1), some (.int x2), some (.int x3)]) (st' := [(.int x2), (.ref 75), (.int v8)]) (h1 := (SH, s)) rfl ?_
    obtain ⟨v10, h9, hJ⟩ := m_b1 hJ
    refine Rn_call srt16 20 rfl rfl rfl ⟨Nat.le_of_ble_eq_true rfl, Nat.le_of_ble_eq_true rfl, rfl, Nat.le_of_ble_eq_true rfl⟩ (k_X11_cell 75 (d + 5) h9) (show Rn N xs (d + 6) me16 39 [some (.ref 73), some (.int x1), some (.int x2), some (.int x3)] [(.int v10), (.int v8)] (SH, s) r from ?_)
    refine Rn_sq srt16 21 1 (pc' := (if v8 ≤ v10 then 46 else 42)) (ls' := [some (.ref 73), some (.int x1), some (.int x2), some (.int x3)]) (st' := []) (h1 := (SH, s)) rfl (Rn_if (fun h11 => ?_) (fun h11 => ?_))
    · replace hJ := m_ifp h11 hJ
      refine Rn_sq srt16 24 1 (pc' := 47) (ls' := [some (.ref 73), some (.int x1), some (.int x2), some (.int x3)]) (st' := [(.int x2)]) (h1 := (SH, s)) rfl ?_
      exact Rn_weaken (a := [some (.ref 73), some (.int x1), none, some (.int x3)]) (b := [some (.ref 73), some (.int x1), some (.int x2), some (.int x3)]) (And.intro rfl (And.intro rfl (And.intro rfl trivial))) rfl (k_X0_likeliest_47 d hJ hC)
    · replace hJ := m_ifn h11 hJ
      refine Rn_sq srt16 22 2 (pc' := 47) (ls' := [some (.ref 73), some (.int x1), some (.int x2), some (.int x3)]) (st' := [(.int x3)]) (h1 := (SH, s)) rfl ?_
      exact Rn_weaken (a := [some (.ref 73), some (.int x1), none, some (.int x3)]) (b := [some (.ref 73), some (.int x1), some (.int x2), some (.int x3)]) (And.intro rfl (And.intro rfl (And.intro rfl trivial))) rfl (k_X0_likeliest_47 d hJ hC)
def F_X0_likeliest_L9 (x1 : Int32) (x2 : Int32) (x3 : Int32) (s : mG) : Option (Int32 × mG) := whl (fun (v : (Int32 × Int32 × Int32 × mG)) => F_X0_likeliest_B9 v.1 v.2.1 v.2.2.1 v.2.2.2) (x1, x2, x3, s)
theorem k_X0_likeliest_L9 {N : Nat} {xs : Nat → Int32} (d : Nat) {r : Option Value × mH} {s : mG} {x1 : Int32} {x2 : Int32} {x3 : Int32} {τ : (Int32 × mG)} (hJ : F_X0_likeliest_L9 x1 x2 x3 s = some τ) (hC : (fun τ => r = (some (.int τ.1), (SH, τ.2))) τ) : Rn N xs (d + 6) me16 9 [some (.ref 73), some (.int x1), some (.int x2), some (.int x3)] [] (SH, s) r :=
  whl_link (P := fun (v : (Int32 × Int32 × Int32 × mG)) => Rn N xs (d + 6) me16 9 [some (.ref 73), some (.int v.1), some (.int v.2.1), some (.int v.2.2.1)] [] (SH, v.2.2.2) r) (C := (C_X0_likeliest_9 N xs d r (fun τ => r = (some (.int τ.1), (SH, τ.2))))) (fun v τ h1 h2 => k_X0_likeliest_B9 d h1 h2) (fun _ h => h) (fun _ h => h) _ _ hJ hC
def F_X0_likeliest (a1 : Int32) (s : mG) : Option (Int32 × mG) :=
  b1 (F_X0_countChances (ci (-1)) s) fun s2 =>
  F_X0_likeliest_L9 a1 (ci 0) (ci 1) s2
set_option maxRecDepth 4000 in
theorem k_X0_likeliest_r {N : Nat} {xs : Nat → Int32} (d : Nat) {r : Option Value × mH} {s : mG} {a1 : Int32} {τ : (Int32 × mG)} (hJ : F_X0_likeliest a1 s = some τ) (hC : (fun τ => r = (some (.int τ.1), (SH, τ.2))) τ) : Rn N xs (d + 6) me16 0 [some (.ref 73), some (.int a1), none, none] [] (SH, s) r := by
  unfold F_X0_likeliest at hJ
  refine Rn_sq srt16 0 2 (pc' := 2) (ls' := [some (.ref 73), some (.int a1), none, none]) (st' := [(.int (ci (-1))), (.ref 73)]) (h1 := (SH, s)) rfl ?_
  obtain ⟨s2, h1, hJ⟩ := m_b1 hJ
  refine Rn_call srt16 2 rfl rfl rfl ⟨Nat.le_of_ble_eq_true rfl, Nat.le_of_ble_eq_true rfl, rfl, Nat.le_of_ble_eq_true rfl⟩ (k_X0_countChances (d) h1) (show Rn N xs (d + 6) me16 5 [some (.ref 73), some (.int a1), none, none] [] (SH, s2) r from ?_)
  refine Rn_sq srt16 3 4 (pc' := 9) (ls' := [some (.ref 73), some (.int a1), some (.int (ci 0)), some (.int (ci 1))]) (st' := []) (h1 := (SH, s2)) rfl ?_
  exact (k_X0_likeliest_L9 d hJ hC)
theorem k_X0_likeliest {N : Nat} {xs : Nat → Int32} (d : Nat) {s : mG} {a1 : Int32} {τ : (Int32 × mG)} (hJ : F_X0_likeliest a1 s = some τ) : Rn N xs (d + 6) me16 0 [some (.ref 73), some (.int a1), none, none] [] (SH, s) (some (.int τ.1), (SH, τ.2)) := k_X0_likeliest_r d hJ rfl
/-! IsHeIn$Belief.chanceWithin(II)I -/
theorem srt18 : m_srt mc18 = true := by decide +kernel
def C_X0_chanceWithin_5 (N : Nat) (xs : Nat → Int32) (s : mG) (d : Nat) (r : Option Value × mH) (C : (Int32) → Prop) : ((Int32 × Int32 × Int32) ⊕ (Int32)) → Prop
  | .inl v => Rn N xs (d + 1) me18 5 [some (.ref 73), none, some (.int v.1), some (.int v.2.1), some (.int v.2.2)] [] (SH, s) r
  | .inr a => C a
def F_X0_chanceWithin_B5 (s : mG) (x2 : Int32) (x3 : Int32) (x4 : Int32) : Option ((Int32 × Int32 × Int32) ⊕ (Int32)) :=
  if x2 < x4 then
    some (Sum.inr x3)
  else
    b1 (F_X11_cell 75 s x4) fun v3 =>
    some (Sum.inl (x2, (x3 + v3), (x4 + ci 1)))
set_option maxRecDepth 4000 in
theorem k_X0_chanceWithin_B5 {N : Nat} {xs : Nat → Int32} (d : Nat) {r : Option Value × mH} {s : mG} {x2 : Int32} {x3 : Int32} {x4 : Int32} {τ : ((Int32 × Int32 × Int32) ⊕ (Int32))} (hJ : F_X0_chanceWithin_B5 s x2 x3 x4 = some τ) (hC : (C_X0_chanceWithin_5 N xs s d r (fun τ => r = (some (.int τ), (SH, s)))) τ) : Rn N xs (d + 1) me18 5 [some (.ref 73), none, some (.int x2), some (.int x3), some (.int x4)] [] (SH, s) r := by
  unfold F_X0_chanceWithin_B5 at hJ
  refine Rn_sq srt18 4 3 (pc' := (if x2 < x4 then 29 else 11)) (ls' := [some (.ref 73), none, some (.int x2), some (.int x3), some (.int x4)]) (st' := []) (h1 := (SH, s)) rfl (Rn_if (fun h1 => ?_) (fun h1 => ?_))
  · replace hJ := m_ifp h1 hJ
    refine Rn_sq srt18 16 1 (pc' := 30) (ls' := [some (.ref 73), none, some (.int x2), some (.int x3), some (.int x4)]) (st' := [(.int x3)]) (h1 := (SH, s)) rfl ?_
    rw [← Option.some.inj hJ] at hC
    have hC : r = (some (.int x3), (SH, s)) := hC
    subst hC
    exact Rn_ret srt18 17 rfl rfl rfl
  · replace hJ := m_ifn h1 hJ
    refine Rn_sq srt18 7 4 (pc' := 18) (ls' := [some (.ref 73), none, some (.int x2), some (.int x3), some (.int x4)]) (st' := [(.int x4), (.ref 75), (.int x3)]) (h1 := (SH, s)) rfl ?_
    obtain ⟨v3, h2, hJ⟩ := m_b1 hJ
    refine Rn_call srt18 11 rfl rfl rfl ⟨Nat.le_of_ble_eq_true rfl, Nat.le_of_ble_eq_true rfl, rfl, Nat.le_of_ble_eq_true rfl⟩ (k_X11_cell 75 (d) h2) (show Rn N xs (d + 1) me18 21 [some (.ref 73), none, some (.int x2), some (.int x3), some (.int x4)] [(.int v3), (.int x3)] (SH, s) r from ?_)
    refine Rn_sq srt18 12 4 (pc' := 5) (ls' := [some (.ref 73), none, some (.int x2), some (.int (x3 + v3)), some (.int (x4 + ci 1))]) (st' := []) (h1 := (SH, s)) rfl ?_
    rw [← Option.some.inj hJ] at hC
    exact hC
def F_X0_chanceWithin_L5 (s : mG) (x2 : Int32) (x3 : Int32) (x4 : Int32) : Option (Int32) := whl (fun (v : (Int32 × Int32 × Int32)) => F_X0_chanceWithin_B5 s v.1 v.2.1 v.2.2) (x2, x3, x4)
theorem k_X0_chanceWithin_L5 {N : Nat} {xs : Nat → Int32} (d : Nat) {r : Option Value × mH} {s : mG} {x2 : Int32} {x3 : Int32} {x4 : Int32} {τ : (Int32)} (hJ : F_X0_chanceWithin_L5 s x2 x3 x4 = some τ) (hC : (fun τ => r = (some (.int τ), (SH, s))) τ) : Rn N xs (d + 1) me18 5 [some (.ref 73), none, some (.int x2), some (.int x3), some (.int x4)] [] (SH, s) r :=
  whl_link (P := fun (v : (Int32 × Int32 × Int32)) => Rn N xs (d + 1) me18 5 [some (.ref 73), none, some (.int v.1), some (.int v.2.1), some (.int v.2.2)] [] (SH, s) r) (C := (C_X0_chanceWithin_5 N xs s d r (fun τ => r = (some (.int τ), (SH, s))))) (fun v τ h1 h2 => k_X0_chanceWithin_B5 d h1 h2) (fun _ h => h) (fun _ h => h) _ _ hJ hC
def F_X0_chanceWithin (s : mG) (a1 : Int32) (a2 : Int32) : Option (Int32) :=
  F_X0_chanceWithin_L5 s a2 (ci 0) a1
set_option maxRecDepth 4000 in
theorem k_X0_chanceWithin_r {N : Nat} {xs : Nat → Int32} (d : Nat) {r : Option Value × mH} {s : mG} {a1 : Int32} {a2 : Int32} {τ : (Int32)} (hJ : F_X0_chanceWithin s a1 a2 = some τ) (hC : (fun τ => r = (some (.int τ), (SH, s))) τ) : Rn N xs (d + 1) me18 0 [some (.ref 73), some (.int a1), some (.int a2), none, none] [] (SH, s) r := by
  unfold F_X0_chanceWithin at hJ
  refine Rn_sq srt18 0 4 (pc' := 5) (ls' := [some (.ref 73), some (.int a1), some (.int a2), some (.int (ci 0)), some (.int a1)]) (st' := []) (h1 := (SH, s)) rfl ?_
  exact Rn_weaken (a := [some (.ref 73), none, some (.int a2), some (.int (ci 0)), some (.int a1)]) (b := [some (.ref 73), some (.int a1), some (.int a2), some (.int (ci 0)), some (.int a1)]) (And.intro rfl (And.intro rfl (And.intro rfl (And.intro rfl trivial)))) rfl (k_X0_chanceWithin_L5 d hJ hC)
theorem k_X0_chanceWithin {N : Nat} {xs : Nat → Int32} (d : Nat) {s : mG} {a1 : Int32} {a2 : Int32} {τ : (Int32)} (hJ : F_X0_chanceWithin s a1 a2 = some τ) : Rn N xs (d + 1) me18 0 [some (.ref 73), some (.int a1), some (.int a2), none, none] [] (SH, s) (some (.int τ), (SH, s)) := k_X0_chanceWithin_r d hJ rfl
/-! IsHeIn$Belief.spanEdge(IZ)I -/
theorem srt17 : m_srt mc17 = true := by decide +kernel
def C_X0_spanEdge_19 (N : Nat) (xs : Nat → Int32) (d : Nat) (r : Option Value × mH) (C : (Int32 × mG) → Prop) : ((Int32 × Int32 × Int32 × Int32 × mG) ⊕ (Int32 × mG)) → Prop
  | .inl v => Rn N xs (d + 6) me17 19 [some (.ref 73), some (.int v.1), some (.int v.2.1), some (.int v.2.2.1), some (.int v.2.2.2.1), none] [] (SH, v.2.2.2.2) r
  | .inr a => C a
def C_X0_spanEdge_28 (N : Nat) (xs : Nat → Int32) (d : Nat) (r : Option Value × mH) (C : ((Int32 × Int32 × Int32 × Int32 × mG) ⊕ (Int32 × mG)) → Prop) : ((Int32 × Int32 × Int32 × Int32 × Int32 × mG) ⊕ ((Int32 × Int32 × Int32 × Int32 × mG) ⊕ (Int32 × mG))) → Prop
  | .inl v => Rn N xs (d + 6) me17 28 [some (.ref 73), some (.int v.1), some (.int v.2.1), some (.int v.2.2.1), some (.int v.2.2.2.1), some (.int v.2.2.2.2.1)] [] (SH, v.2.2.2.2.2) r
  | .inr a => C a
def F_X0_spanEdge_B28 (x1 : Int32) (x2 : Int32) (x3 : Int32) (x4 : Int32) (x5 : Int32) (s : mG) : Option ((Int32 × Int32 × Int32 × Int32 × Int32 × mG) ⊕ ((Int32 × Int32 × Int32 × Int32 × mG) ⊕ (Int32 × mG))) :=
  if x3 < (x5 + x4) then
    some (Sum.inr (Sum.inl (x1, x2, x3, (x4 + ci 1), s)))
  else
    b1 (F_X0_chanceWithin s x5 (x5 + x4)) fun v6 =>
    if v6 < (x1 * (c16 1000)) then
      some (Sum.inl (x1, x2, x3, x4, (x5 + ci 1), s))
    else
      if x2 = 0 then
        some (Sum.inr (Sum.inr (x5, s)))
      else
        some (Sum.inr (Sum.inr ((x5 + x4), s)))
set_option maxRecDepth 4000 in
theorem k_X0_spanEdge_B28 {N : Nat} {xs : Nat → Int32} (d : Nat) {r : Option Value × mH} {s : mG} {x1 : Int32} {x2 : Int32} {x3 : Int32} {x4 : Int32} {x5 : Int32} {τ : ((Int32 × Int32 × Int32 × Int32 × Int32 × mG) ⊕ ((Int32 × Int32 × Int32 × Int32 × mG) ⊕ (Int32 × mG)))} (hJ : F_X0_spanEdge_B28 x1 x2 x3 x4 x5 s = some τ) (hC : (C_X0_spanEdge_28 N xs d r (C_X0_spanEdge_19 N xs d r (fun τ => r = (some (.int τ.1), (SH, τ.2))))) τ) : Rn N xs (d + 6) me17 28 [some (.ref 73), some (.int x1), some (.int x2), some (.int x3), some (.int x4), some (.int x5)] [] (SH, s) r := by
  unfold F_X0_spanEdge_B28 at hJ
  refine Rn_sq srt17 15 5 (pc' := (if x3 < (x5 + x4) then 77 else 37)) (ls' := [some (.ref 73), some (.int x1), some (.int x2), some (.int x3), some (.int x4), some (.int x5)]) (st' := []) (h1 := (SH, s)) rfl (Rn_if (fun h4 => ?_) (fun h4 => ?_))
  · replace hJ := m_ifp h4 hJ
    refine Rn_sq srt17 40 2 (pc' := 19) (ls' := [some (.ref 73), some (.int x1), some (.int x2), some (.int x3), some (.int (x4 + ci 1)), some (.int x5)]) (st' := []) (h1 := (SH, s)) rfl ?_
    rw [← Option.some.inj hJ] at hC
    exact Rn_weaken (a := [some (.ref 73), some (.int x1), some (.int x2), some (.int x3), some (.int (x4 + ci 1)), none]) (b := [some (.ref 73), some (.int x1), some (.int x2), some (.int x3), some (.int (x4 + ci 1)), some (.int x5)]) (And.intro rfl (And.intro rfl (And.intro rfl (And.intro rfl (And.intro rfl trivial))))) rfl hC
  · replace hJ := m_ifn h4 hJ
    refine Rn_sq srt17 20 5 (pc' := 45) (ls' := [some (.ref 73), some (.int x1), some (.int x2), some (.int x3), some (.int x4), some (.int x5)]) (st' := [(.int (x5 + x4)), (.int x5), (.ref 73)]) (h1 := (SH, s)) rfl ?_
    obtain ⟨v6, h5, hJ⟩ := m_b1 hJ
    refine Rn_call srt17 25 rfl rfl rfl ⟨Nat.le_of_ble_eq_true rfl, Nat.le_of_ble_eq_true rfl, rfl, Nat.le_of_ble_eq_true rfl⟩ (k_X0_chanceWithin (d + 4) h5) (show Rn N xs (d + 6) me17 48 [some (.ref 73), some (.int x1), some (.int x2), some (.int x3), some (.int x4), some (.int x5)] [(.int v6)] (SH, s) r from ?_)
    refine Rn_sq srt17 26 4 (pc' := (if v6 < (x1 * (c16 1000)) then 71 else 56)) (ls' := [some (.ref 73), some (.int x1), some (.int x2), some (.int x3), some (.int x4), some (.int x5)]) (st' := []) (h1 := (SH, s)) rfl (Rn_if (fun h7 => ?_) (fun h7 => ?_))
    · replace hJ := m_ifp h7 hJ
      refine Rn_sq srt17 38 2 (pc' := 28) (ls' := [some (.ref 73), some (.int x1), some (.int x2), some (.int x3), some (.int x4), some (.int (x5 + ci 1))]) (st' := []) (h1 := (SH, s)) rfl ?_
      rw [← Option.some.inj hJ] at hC
      exact hC
    · replace hJ := m_ifn h7 hJ
      refine Rn_sq srt17 30 2 (pc' := (if x2 = 0 then 68 else 60)) (ls' := [some (.ref 73), some (.int x1), some (.int x2), some (.int x3), some (.int x4), some (.int x5)]) (st' := []) (h1 := (SH, s)) rfl (Rn_if (fun h8 => ?_) (fun h8 => ?_))
      · replace hJ := m_ifp h8 hJ
        refine Rn_sq srt17 36 1 (pc' := 70) (ls' := [some (.ref 73), some (.int x1), some (.int x2), some (.int x3), some (.int x4), some (.int x5)]) (st' := [(.int x5)]) (h1 := (SH, s)) rfl ?_
        rw [← Option.some.inj hJ] at hC
        have hC : r = (some (.int x5), (SH, s)) := hC
        subst hC
        exact Rn_ret srt17 37 rfl rfl rfl
      · replace hJ := m_ifn h8 hJ
        refine Rn_sq srt17 32 4 (pc' := 70) (ls' := [some (.ref 73), some (.int x1), some (.int x2), some (.int x3), some (.int x4), some (.int x5)]) (st' := [(.int (x5 + x4))]) (h1 := (SH, s)) rfl ?_
        rw [← Option.some.inj hJ] at hC
        have hC : r = (some (.int (x5 + x4)), (SH, s)) := hC
        subst hC
        exact Rn_ret srt17 37 rfl rfl rfl
def F_X0_spanEdge_L28 (x1 : Int32) (x2 : Int32) (x3 : Int32) (x4 : Int32) (x5 : Int32) (s : mG) : Option ((Int32 × Int32 × Int32 × Int32 × mG) ⊕ (Int32 × mG)) := whl (fun (v : (Int32 × Int32 × Int32 × Int32 × Int32 × mG)) => F_X0_spanEdge_B28 v.1 v.2.1 v.2.2.1 v.2.2.2.1 v.2.2.2.2.1 v.2.2.2.2.2) (x1, x2, x3, x4, x5, s)
theorem k_X0_spanEdge_L28 {N : Nat} {xs : Nat → Int32} (d : Nat) {r : Option Value × mH} {s : mG} {x1 : Int32} {x2 : Int32} {x3 : Int32} {x4 : Int32} {x5 : Int32} {τ : ((Int32 × Int32 × Int32 × Int32 × mG) ⊕ (Int32 × mG))} (hJ : F_X0_spanEdge_L28 x1 x2 x3 x4 x5 s = some τ) (hC : (C_X0_spanEdge_19 N xs d r (fun τ => r = (some (.int τ.1), (SH, τ.2)))) τ) : Rn N xs (d + 6) me17 28 [some (.ref 73), some (.int x1), some (.int x2), some (.int x3), some (.int x4), some (.int x5)] [] (SH, s) r :=
  whl_link (P := fun (v : (Int32 × Int32 × Int32 × Int32 × Int32 × mG)) => Rn N xs (d + 6) me17 28 [some (.ref 73), some (.int v.1), some (.int v.2.1), some (.int v.2.2.1), some (.int v.2.2.2.1), some (.int v.2.2.2.2.1)] [] (SH, v.2.2.2.2.2) r) (C := (C_X0_spanEdge_28 N xs d r (C_X0_spanEdge_19 N xs d r (fun τ => r = (some (.int τ.1), (SH, τ.2)))))) (fun v τ h1 h2 => k_X0_spanEdge_B28 d h1 h2) (fun _ h => h) (fun _ h => h) _ _ hJ hC
def F_X0_spanEdge_B19 (x1 : Int32) (x2 : Int32) (x3 : Int32) (x4 : Int32) (s : mG) : Option ((Int32 × Int32 × Int32 × Int32 × mG) ⊕ (Int32 × mG)) :=
  if x3 < x4 then
    some (Sum.inr ((ci (-1)), s))
  else
    F_X0_spanEdge_L28 x1 x2 x3 x4 (ci 0) s
set_option maxRecDepth 4000 in
theorem k_X0_spanEdge_B19 {N : Nat} {xs : Nat → Int32} (d : Nat) {r : Option Value × mH} {s : mG} {x1 : Int32} {x2 : Int32} {x3 : Int32} {x4 : Int32} {τ : ((Int32 × Int32 × Int32 × Int32 × mG) ⊕ (Int32 × mG))} (hJ : F_X0_spanEdge_B19 x1 x2 x3 x4 s = some τ) (hC : (C_X0_spanEdge_19 N xs d r (fun τ => r = (some (.int τ.1), (SH, τ.2)))) τ) : Rn N xs (d + 6) me17 19 [some (.ref 73), some (.int x1), some (.int x2), some (.int x3), some (.int x4), none] [] (SH, s) r := by
  unfold F_X0_spanEdge_B19 at hJ
  refine Rn_sq srt17 10 3 (pc' := (if x3 < x4 then 83 else 25)) (ls' := [some (.ref 73), some (.int x1), some (.int x2), some (.int x3), some (.int x4), none]) (st' := []) (h1 := (SH, s)) rfl (Rn_if (fun h3 => ?_) (fun h3 => ?_))
  · replace hJ := m_ifp h3 hJ
    refine Rn_sq srt17 42 1 (pc' := 84) (ls' := [some (.ref 73), some (.int x1), some (.int x2), some (.int x3), some (.int x4), none]) (st' := [(.int (ci (-1)))]) (h1 := (SH, s)) rfl ?_
    rw [← Option.some.inj hJ] at hC
    have hC : r = (some (.int (ci (-1))), (SH, s)) := hC
    subst hC
    exact Rn_ret srt17 43 rfl rfl rfl
  · replace hJ := m_ifn h3 hJ
    refine Rn_sq srt17 13 2 (pc' := 28) (ls' := [some (.ref 73), some (.int x1), some (.int x2), some (.int x3), some (.int x4), some (.int (ci 0))]) (st' := []) (h1 := (SH, s)) rfl ?_
    exact (k_X0_spanEdge_L28 d hJ hC)
def F_X0_spanEdge_L19 (x1 : Int32) (x2 : Int32) (x3 : Int32) (x4 : Int32) (s : mG) : Option (Int32 × mG) := whl (fun (v : (Int32 × Int32 × Int32 × Int32 × mG)) => F_X0_spanEdge_B19 v.1 v.2.1 v.2.2.1 v.2.2.2.1 v.2.2.2.2) (x1, x2, x3, x4, s)
theorem k_X0_spanEdge_L19 {N : Nat} {xs : Nat → Int32} (d : Nat) {r : Option Value × mH} {s : mG} {x1 : Int32} {x2 : Int32} {x3 : Int32} {x4 : Int32} {τ : (Int32 × mG)} (hJ : F_X0_spanEdge_L19 x1 x2 x3 x4 s = some τ) (hC : (fun τ => r = (some (.int τ.1), (SH, τ.2))) τ) : Rn N xs (d + 6) me17 19 [some (.ref 73), some (.int x1), some (.int x2), some (.int x3), some (.int x4), none] [] (SH, s) r :=
  whl_link (P := fun (v : (Int32 × Int32 × Int32 × Int32 × mG)) => Rn N xs (d + 6) me17 19 [some (.ref 73), some (.int v.1), some (.int v.2.1), some (.int v.2.2.1), some (.int v.2.2.2.1), none] [] (SH, v.2.2.2.2) r) (C := (C_X0_spanEdge_19 N xs d r (fun τ => r = (some (.int τ.1), (SH, τ.2))))) (fun v τ h1 h2 => k_X0_spanEdge_B19 d h1 h2) (fun _ h => h) (fun _ h => h) _ _ hJ hC
def F_X0_spanEdge (a1 : Int32) (a2 : Int32) (s : mG) : Option (Int32 × mG) :=
  b1 (F_X0_countChances (ci (-1)) s) fun s2 =>
  F_X0_spanEdge_L19 a1 a2 (s2.1 2 3) (ci 0) s2
set_option maxRecDepth 4000 in
theorem k_X0_spanEdge_r {N : Nat} {xs : Nat → Int32} (d : Nat) {r : Option Value × mH} {s : mG} {a1 : Int32} {a2 : Int32} {τ : (Int32 × mG)} (hJ : F_X0_spanEdge a1 a2 s = some τ) (hC : (fun τ => r = (some (.int τ.1), (SH, τ.2))) τ) : Rn N xs (d + 6) me17 0 [some (.ref 73), some (.int a1), some (.int a2), none, none, none] [] (SH, s) r := by
  unfold F_X0_spanEdge at hJ
  refine Rn_sq srt17 0 2 (pc' := 2) (ls' := [some (.ref 73), some (.int a1), some (.int a2), none, none, none]) (st' := [(.int (ci (-1))), (.ref 73)]) (h1 := (SH, s)) rfl ?_
  obtain ⟨s2, h1, hJ⟩ := m_b1 hJ
  refine Rn_call srt17 2 rfl rfl rfl ⟨Nat.le_of_ble_eq_true rfl, Nat.le_of_ble_eq_true rfl, rfl, Nat.le_of_ble_eq_true rfl⟩ (k_X0_countChances (d) h1) (show Rn N xs (d + 6) me17 5 [some (.ref 73), some (.int a1), some (.int a2), none, none, none] [] (SH, s2) r from ?_)
  refine Rn_sq srt17 3 7 (pc' := 19) (ls' := [some (.ref 73), some (.int a1), some (.int a2), some (.int (s2.1 2 3)), some (.int (ci 0)), none]) (st' := []) (h1 := (SH, s2)) rfl ?_
  exact (k_X0_spanEdge_L19 d hJ hC)
theorem k_X0_spanEdge {N : Nat} {xs : Nat → Int32} (d : Nat) {s : mG} {a1 : Int32} {a2 : Int32} {τ : (Int32 × mG)} (hJ : F_X0_spanEdge a1 a2 s = some τ) : Rn N xs (d + 6) me17 0 [some (.ref 73), some (.int a1), some (.int a2), none, none, none] [] (SH, s) (some (.int τ.1), (SH, τ.2)) := k_X0_spanEdge_r d hJ rfl
/-! IsHeIn$Belief.amongCounted(II)I -/
theorem srt19 : m_srt mc19 = true := by decide +kernel
def F_X0_amongCounted (a1 : Int32) (a2 : Int32) (s : mG) : Option (Int32 × mG) :=
  b1 (F_X0_countChances a1 s) fun s2 =>
  b1 (F_X11_cell 76 s2 a1) fun v4 =>
  b1 (F_X11_cell 75 s2 (a2 - (ci 1))) fun v6 =>
  let v7 : Int64 := (v4.toInt64 * v6.toInt64)
  b1 (F_X11_cell 75 s2 a2) fun v9 =>
  let v10 : Int64 := (((cl 1000000) - v4.toInt64) * v9.toInt64)
  if (lg_cmp (v7 + v10) (cz 0)) = 0 then
    some ((ci (-1)), s2)
  else
    if (v7 + v10) = 0 then none else
    let v13 : Int32 := (((cl 1000000) * v7) / (v7 + v10)).toInt32
    some (v13, s2)
set_option maxRecDepth 4000 in
theorem k_X0_amongCounted_r {N : Nat} {xs : Nat → Int32} (d : Nat) {r : Option Value × mH} {s : mG} {a1 : Int32} {a2 : Int32} {τ : (Int32 × mG)} (hJ : F_X0_amongCounted a1 a2 s = some τ) (hC : (fun τ => r = (some (.int τ.1), (SH, τ.2))) τ) : Rn N xs (d + 6) me19 0 [some (.ref 73), some (.int a1), some (.int a2), none, none, none, none, none, none] [] (SH, s) r := by
  unfold F_X0_amongCounted at hJ
  refine Rn_sq srt19 0 2 (pc' := 2) (ls' := [some (.ref 73), some (.int a1), some (.int a2), none, none, none, none, none, none]) (st' := [(.int a1), (.ref 73)]) (h1 := (SH, s)) rfl ?_
  obtain ⟨s2, h1, hJ⟩ := m_b1 hJ
  refine Rn_call srt19 2 rfl rfl rfl ⟨Nat.le_of_ble_eq_true rfl, Nat.le_of_ble_eq_true rfl, rfl, Nat.le_of_ble_eq_true rfl⟩ (k_X0_countChances (d) h1) (show Rn N xs (d + 6) me19 5 [some (.ref 73), some (.int a1), some (.int a2), none, none, none, none, none, none] [] (SH, s2) r from ?_)
  refine Rn_sq srt19 3 3 (pc' := 10) (ls' := [some (.ref 73), some (.int a1), some (.int a2), none, none, none, none, none, none]) (st' := [(.int a1), (.ref 76)]) (h1 := (SH, s2)) rfl ?_
  obtain ⟨v4, h3, hJ⟩ := m_b1 hJ
  refine Rn_call srt19 6 rfl rfl rfl ⟨Nat.le_of_ble_eq_true rfl, Nat.le_of_ble_eq_true rfl, rfl, Nat.le_of_ble_eq_true rfl⟩ (k_X11_cell 76 (d + 5) h3) (show Rn N xs (d + 6) me19 13 [some (.ref 73), some (.int a1), some (.int a2), none, none, none, none, none, none] [(.int v4)] (SH, s2) r from ?_)
  refine Rn_sq srt19 7 8 (pc' := 23) (ls' := [some (.ref 73), some (.int a1), some (.int a2), some (.long v4.toInt64), none, none, none, none, none]) (st' := [(.int (a2 - (ci 1))), (.ref 75), (.long v4.toInt64)]) (h1 := (SH, s2)) rfl ?_
  obtain ⟨v6, h5, hJ⟩ := m_b1 hJ
  refine Rn_call srt19 15 rfl rfl rfl ⟨Nat.le_of_ble_eq_true rfl, Nat.le_of_ble_eq_true rfl, rfl, Nat.le_of_ble_eq_true rfl⟩ (k_X11_cell 75 (d + 5) h5) (show Rn N xs (d + 6) me19 26 [some (.ref 73), some (.int a1), some (.int a2), some (.long v4.toInt64), none, none, none, none, none] [(.int v6), (.long v4.toInt64)] (SH, s2) r from ?_)
  extract_lets +onlyGivenNames v7 at hJ
  refine Rn_sq srt19 16 9 (pc' := 40) (ls' := [some (.ref 73), some (.int a1), some (.int a2), some (.long v4.toInt64), none, some (.long v7), none, none, none]) (st' := [(.int a2), (.ref 75), (.long ((cl 1000000) - v4.toInt64))]) (h1 := (SH, s2)) rfl ?_
  obtain ⟨v9, h8, hJ⟩ := m_b1 hJ
  refine Rn_call srt19 25 rfl rfl rfl ⟨Nat.le_of_ble_eq_true rfl, Nat.le_of_ble_eq_true rfl, rfl, Nat.le_of_ble_eq_true rfl⟩ (k_X11_cell 75 (d + 5) h8) (show Rn N xs (d + 6) me19 43 [some (.ref 73), some (.int a1), some (.int a2), some (.long v4.toInt64), none, some (.long v7), none, none, none] [(.int v9), (.long ((cl 1000000) - v4.toInt64))] (SH, s2) r from ?_)
  extract_lets +onlyGivenNames v10 at hJ
  refine Rn_sq srt19 26 9 (pc' := (if (lg_cmp (v7 + v10) (cz 0)) = 0 then 57 else 61)) (ls' := [some (.ref 73), some (.int a1), some (.int a2), some (.long v4.toInt64), none, some (.long v7), none, some (.long v10), none]) (st' := []) (h1 := (SH, s2)) rfl (Rn_if (fun h11 => ?_) (fun h11 => ?_))
  · replace hJ := m_ifp h11 hJ
    refine Rn_sq srt19 35 2 (pc' := 74) (ls' := [some (.ref 73), some (.int a1), some (.int a2), some (.long v4.toInt64), none, some (.long v7), none, some (.long v10), none]) (st' := [(.int (ci (-1)))]) (h1 := (SH, s2)) rfl ?_
    rw [← Option.some.inj hJ] at hC
    have hC : r = (some (.int (ci (-1))), (SH, s2)) := hC
    subst hC
    exact Rn_ret srt19 45 rfl rfl rfl
  · replace hJ := m_ifn h11 hJ
    refine Rn_sq srt19 37 6 (pc' := 72) (ls' := [some (.ref 73), some (.int a1), some (.int a2), some (.long v4.toInt64), none, some (.long v7), none, some (.long v10), none]) (st' := [(.long (v7 + v10)), (.long ((cl 1000000) * v7))]) (h1 := (SH, s2)) rfl ?_
    obtain ⟨h12, hJ⟩ := m_gn hJ
    refine Rn_ev srt19 43 rfl rfl rfl (op_ldiv h12) ?_
    refine Rn_sq srt19 44 1 (pc' := 74) (ls' := [some (.ref 73), some (.int a1), some (.int a2), some (.long v4.toInt64), none, some (.long v7), none, some (.long v10), none]) (st' := [(.int (((cl 1000000) * v7) / (v7 + v10)).toInt32)]) (h1 := (SH, s2)) rfl ?_
    extract_lets +onlyGivenNames v13 at hJ
    rw [← Option.some.inj hJ] at hC
    have hC : r = (some (.int (((cl 1000000) * v7) / (v7 + v10)).toInt32), (SH, s2)) := hC
    subst hC
    exact Rn_ret srt19 45 rfl rfl rfl
theorem k_X0_amongCounted {N : Nat} {xs : Nat → Int32} (d : Nat) {s : mG} {a1 : Int32} {a2 : Int32} {τ : (Int32 × mG)} (hJ : F_X0_amongCounted a1 a2 s = some τ) : Rn N xs (d + 6) me19 0 [some (.ref 73), some (.int a1), some (.int a2), none, none, none, none, none, none] [] (SH, s) (some (.int τ.1), (SH, τ.2)) := k_X0_amongCounted_r d hJ rfl
/-! IsHeIn$Belief.emptyChance(I)I -/
theorem srt20 : m_srt mc20 = true := by decide +kernel
def C_X0_emptyChance_9 (N : Nat) (xs : Nat → Int32) (d : Nat) (r : Option Value × mH) (C : (Int32 × mG) → Prop) : ((Int32 × Int32 × Int32 × mG) ⊕ (Int32 × mG)) → Prop
  | .inl v => Rn N xs (d + 5) me20 9 [some (.ref 73), some (.int v.1), some (.int v.2.1), some (.int v.2.2.1)] [] (SH, v.2.2.2) r
  | .inr a => C a
def F_X0_emptyChance_55 (x1 : Int32) (x2 : Int32) (x3 : Int32) (s : mG) : Option ((Int32 × Int32 × Int32 × mG) ⊕ (Int32 × mG)) :=
  some (Sum.inl (x1, x2, (x3 + ci 1), s))
set_option maxRecDepth 4000 in
theorem k_X0_emptyChance_55 {N : Nat} {xs : Nat → Int32} (d : Nat) {r : Option Value × mH} {s : mG} {x1 : Int32} {x2 : Int32} {x3 : Int32} {τ : ((Int32 × Int32 × Int32 × mG) ⊕ (Int32 × mG))} (hJ : F_X0_emptyChance_55 x1 x2 x3 s = some τ) (hC : (C_X0_emptyChance_9 N xs d r (fun τ => r = (some (.int τ.1), (SH, τ.2)))) τ) : Rn N xs (d + 5) me20 55 [some (.ref 73), some (.int x1), some (.int x2), some (.int x3)] [] (SH, s) r := by
  unfold F_X0_emptyChance_55 at hJ
  refine Rn_sq srt20 29 2 (pc' := 9) (ls' := [some (.ref 73), some (.int x1), some (.int x2), some (.int (x3 + ci 1))]) (st' := []) (h1 := (SH, s)) rfl ?_
  rw [← Option.some.inj hJ] at hC
  exact hC
def F_X0_emptyChance_B9 (x1 : Int32) (x2 : Int32) (x3 : Int32) (s : mG) : Option ((Int32 × Int32 × Int32 × mG) ⊕ (Int32 × mG)) :=
  if (s.1 2 3) ≤ x3 then
    some (Sum.inr (x2, s))
  else
    b1 (F_X10_at 2 s x3 (ci 0)) fun v5 =>
    if v5 = x1 then
      b1 (F_X11_cell 76 s x3) fun v8 =>
      b1 (F_X11_share s x2 ((ci 1000000) - v8)) fun v10 =>
      F_X0_emptyChance_55 x1 v10 x3 s
    else
      F_X0_emptyChance_55 x1 x2 x3 s
set_option maxRecDepth 4000 in
theorem k_X0_emptyChance_B9 {N : Nat} {xs : Nat → Int32} (d : Nat) {r : Option Value × mH} {s : mG} {x1 : Int32} {x2 : Int32} {x3 : Int32} {τ : ((Int32 × Int32 × Int32 × mG) ⊕ (Int32 × mG))} (hJ : F_X0_emptyChance_B9 x1 x2 x3 s = some τ) (hC : (C_X0_emptyChance_9 N xs d r (fun τ => r = (some (.int τ.1), (SH, τ.2)))) τ) : Rn N xs (d + 5) me20 9 [some (.ref 73), some (.int x1), some (.int x2), some (.int x3)] [] (SH, s) r := by
  unfold F_X0_emptyChance_B9 at hJ
  refine Rn_sq srt20 6 6 (pc' := (if (s.1 2 3) ≤ x3 then 61 else 23)) (ls' := [some (.ref 73), some (.int x1), some (.int x2), some (.int x3)]) (st' := []) (h1 := (SH, s)) rfl (Rn_if (fun h3 => ?_) (fun h3 => ?_))
  · replace hJ := m_ifp h3 hJ
    refine Rn_sq srt20 31 1 (pc' := 62) (ls' := [some (.ref 73), some (.int x1), some (.int x2), some (.int x3)]) (st' := [(.int x2)]) (h1 := (SH, s)) rfl ?_
    rw [← Option.some.inj hJ] at hC
    have hC : r = (some (.int x2), (SH, s)) := hC
    subst hC
    exact Rn_ret srt20 32 rfl rfl rfl
  · replace hJ := m_ifn h3 hJ
    refine Rn_sq srt20 12 5 (pc' := 32) (ls' := [some (.ref 73), some (.int x1), some (.int x2), some (.int x3)]) (st' := [(.int (ci 0)), (.int x3), (.ref 2)]) (h1 := (SH, s)) rfl ?_
    obtain ⟨v5, h4, hJ⟩ := m_b1 hJ
    refine Rn_call srt20 17 rfl rfl rfl ⟨Nat.le_of_ble_eq_true rfl, Nat.le_of_ble_eq_true rfl, rfl, Nat.le_of_ble_eq_true rfl⟩ (k_X10_at 2 (d + 4) isT_2 h4) (show Rn N xs (d + 5) me20 35 [some (.ref 73), some (.int x1), some (.int x2), some (.int x3)] [(.int v5)] (SH, s) r from ?_)
    refine Rn_sq srt20 18 2 (pc' := (if v5 = x1 then 39 else 55)) (ls' := [some (.ref 73), some (.int x1), some (.int x2), some (.int x3)]) (st' := []) (h1 := (SH, s)) rfl (Rn_if (fun h6 => ?_) (fun h6 => ?_))
    · replace hJ := m_ifp h6 hJ
      refine Rn_sq srt20 20 5 (pc' := 47) (ls' := [some (.ref 73), some (.int x1), some (.int x2), some (.int x3)]) (st' := [(.int x3), (.ref 76), (.int (ci 1000000)), (.int x2)]) (h1 := (SH, s)) rfl ?_
      obtain ⟨v8, h7, hJ⟩ := m_b1 hJ
      refine Rn_call srt20 25 rfl rfl rfl ⟨Nat.le_of_ble_eq_true rfl, Nat.le_of_ble_eq_true rfl, rfl, Nat.le_of_ble_eq_true rfl⟩ (k_X11_cell 76 (d + 4) h7) (show Rn N xs (d + 5) me20 50 [some (.ref 73), some (.int x1), some (.int x2), some (.int x3)] [(.int v8), (.int (ci 1000000)), (.int x2)] (SH, s) r from ?_)
      refine Rn_sq srt20 26 1 (pc' := 51) (ls' := [some (.ref 73), some (.int x1), some (.int x2), some (.int x3)]) (st' := [(.int ((ci 1000000) - v8)), (.int x2)]) (h1 := (SH, s)) rfl ?_
      obtain ⟨v10, h9, hJ⟩ := m_b1 hJ
      refine Rn_call srt20 27 rfl rfl rfl ⟨Nat.le_of_ble_eq_true rfl, Nat.le_of_ble_eq_true rfl, rfl, Nat.le_of_ble_eq_true rfl⟩ (k_X11_share (d + 4) h9) (show Rn N xs (d + 5) me20 54 [some (.ref 73), some (.int x1), some (.int x2), some (.int x3)] [(.int v10)] (SH, s) r from ?_)
      refine Rn_sq srt20 28 1 (pc' := 55) (ls' := [some (.ref 73), some (.int x1), some (.int v10), some (.int x3)]) (st' := []) (h1 := (SH, s)) rfl ?_
      exact (k_X0_emptyChance_55 d hJ hC)
    · replace hJ := m_ifn h6 hJ
      exact (k_X0_emptyChance_55 d hJ hC)
def F_X0_emptyChance_L9 (x1 : Int32) (x2 : Int32) (x3 : Int32) (s : mG) : Option (Int32 × mG) := whl (fun (v : (Int32 × Int32 × Int32 × mG)) => F_X0_emptyChance_B9 v.1 v.2.1 v.2.2.1 v.2.2.2) (x1, x2, x3, s)
theorem k_X0_emptyChance_L9 {N : Nat} {xs : Nat → Int32} (d : Nat) {r : Option Value × mH} {s : mG} {x1 : Int32} {x2 : Int32} {x3 : Int32} {τ : (Int32 × mG)} (hJ : F_X0_emptyChance_L9 x1 x2 x3 s = some τ) (hC : (fun τ => r = (some (.int τ.1), (SH, τ.2))) τ) : Rn N xs (d + 5) me20 9 [some (.ref 73), some (.int x1), some (.int x2), some (.int x3)] [] (SH, s) r :=
  whl_link (P := fun (v : (Int32 × Int32 × Int32 × mG)) => Rn N xs (d + 5) me20 9 [some (.ref 73), some (.int v.1), some (.int v.2.1), some (.int v.2.2.1)] [] (SH, v.2.2.2) r) (C := (C_X0_emptyChance_9 N xs d r (fun τ => r = (some (.int τ.1), (SH, τ.2))))) (fun v τ h1 h2 => k_X0_emptyChance_B9 d h1 h2) (fun _ h => h) (fun _ h => h) _ _ hJ hC
def F_X0_emptyChance (a1 : Int32) (s : mG) : Option (Int32 × mG) :=
  b1 (F_X0_weighAll s) fun s2 =>
  F_X0_emptyChance_L9 a1 (ci 1000000) (ci 0) s2
set_option maxRecDepth 4000 in
theorem k_X0_emptyChance_r {N : Nat} {xs : Nat → Int32} (d : Nat) {r : Option Value × mH} {s : mG} {a1 : Int32} {τ : (Int32 × mG)} (hJ : F_X0_emptyChance a1 s = some τ) (hC : (fun τ => r = (some (.int τ.1), (SH, τ.2))) τ) : Rn N xs (d + 5) me20 0 [some (.ref 73), some (.int a1), none, none] [] (SH, s) r := by
  unfold F_X0_emptyChance at hJ
  refine Rn_sq srt20 0 1 (pc' := 1) (ls' := [some (.ref 73), some (.int a1), none, none]) (st' := [(.ref 73)]) (h1 := (SH, s)) rfl ?_
  obtain ⟨s2, h1, hJ⟩ := m_b1 hJ
  refine Rn_call srt20 1 rfl rfl rfl ⟨Nat.le_of_ble_eq_true rfl, Nat.le_of_ble_eq_true rfl, rfl, Nat.le_of_ble_eq_true rfl⟩ (k_X0_weighAll (d) h1) (show Rn N xs (d + 5) me20 4 [some (.ref 73), some (.int a1), none, none] [] (SH, s2) r from ?_)
  refine Rn_sq srt20 2 4 (pc' := 9) (ls' := [some (.ref 73), some (.int a1), some (.int (ci 1000000)), some (.int (ci 0))]) (st' := []) (h1 := (SH, s2)) rfl ?_
  exact (k_X0_emptyChance_L9 d hJ hC)
theorem k_X0_emptyChance {N : Nat} {xs : Nat → Int32} (d : Nat) {s : mG} {a1 : Int32} {τ : (Int32 × mG)} (hJ : F_X0_emptyChance a1 s = some τ) : Rn N xs (d + 5) me20 0 [some (.ref 73), some (.int a1), none, none] [] (SH, s) (some (.int τ.1), (SH, τ.2)) := k_X0_emptyChance_r d hJ rfl
/-! IsHeIn$Belief.bestPair(I)I -/
theorem srt21 : m_srt mc21 = true := by decide +kernel
def C_X0_bestPair_14 (N : Nat) (xs : Nat → Int32) (d : Nat) (r : Option Value × mH) (C : (Int32 × mG) → Prop) : ((Int32 × Int32 × Int32 × Int32 × Int32 × mG) ⊕ (Int32 × mG)) → Prop
  | .inl v => Rn N xs (d + 5) me21 14 [some (.ref 73), some (.int v.1), some (.int v.2.1), some (.int v.2.2.1), some (.int v.2.2.2.1), some (.int v.2.2.2.2.1), none, none] [] (SH, v.2.2.2.2.2) r
  | .inr a => C a
def C_X0_bestPair_35 (N : Nat) (xs : Nat → Int32) (d : Nat) (r : Option Value × mH) (C : ((Int32 × Int32 × Int32 × Int32 × Int32 × mG) ⊕ (Int32 × mG)) → Prop) : ((Int32 × Int32 × Int32 × Int32 × Int32 × Int32 × mG) ⊕ ((Int32 × Int32 × Int32 × Int32 × Int32 × mG) ⊕ (Int32 × mG))) → Prop
  | .inl v => Rn N xs (d + 5) me21 35 [some (.ref 73), some (.int v.1), some (.int v.2.1), some (.int v.2.2.1), some (.int v.2.2.2.1), some (.int v.2.2.2.2.1), some (.int v.2.2.2.2.2.1), none] [] (SH, v.2.2.2.2.2.2) r
  | .inr a => C a
def F_X0_bestPair_90 (x1 : Int32) (x2 : Int32) (x3 : Int32) (x4 : Int32) (x5 : Int32) (x6 : Int32) (s : mG) : Option ((Int32 × Int32 × Int32 × Int32 × Int32 × Int32 × mG) ⊕ ((Int32 × Int32 × Int32 × Int32 × Int32 × mG) ⊕ (Int32 × mG))) :=
  some (Sum.inl (x1, x2, x3, x4, x5, (x6 + ci 1), s))
set_option maxRecDepth 4000 in
theorem k_X0_bestPair_90 {N : Nat} {xs : Nat → Int32} (d : Nat) {r : Option Value × mH} {s : mG} {x1 : Int32} {x2 : Int32} {x3 : Int32} {x4 : Int32} {x5 : Int32} {x6 : Int32} {τ : ((Int32 × Int32 × Int32 × Int32 × Int32 × Int32 × mG) ⊕ ((Int32 × Int32 × Int32 × Int32 × Int32 × mG) ⊕ (Int32 × mG)))} (hJ : F_X0_bestPair_90 x1 x2 x3 x4 x5 x6 s = some τ) (hC : (C_X0_bestPair_35 N xs d r (C_X0_bestPair_14 N xs d r (fun τ => r = (some (.int τ.1), (SH, τ.2))))) τ) : Rn N xs (d + 5) me21 90 [some (.ref 73), some (.int x1), some (.int x2), some (.int x3), some (.int x4), some (.int x5), some (.int x6), none] [] (SH, s) r := by
  unfold F_X0_bestPair_90 at hJ
  refine Rn_sq srt21 45 2 (pc' := 35) (ls' := [some (.ref 73), some (.int x1), some (.int x2), some (.int x3), some (.int x4), some (.int x5), some (.int (x6 + ci 1)), none]) (st' := []) (h1 := (SH, s)) rfl ?_
  rw [← Option.some.inj hJ] at hC
  exact hC
def F_X0_bestPair_B35 (x1 : Int32) (x2 : Int32) (x3 : Int32) (x4 : Int32) (x5 : Int32) (x6 : Int32) (s : mG) : Option ((Int32 × Int32 × Int32 × Int32 × Int32 × Int32 × mG) ⊕ ((Int32 × Int32 × Int32 × Int32 × Int32 × mG) ⊕ (Int32 × mG))) :=
  if (s.1 2 3) ≤ x6 then
    some (Sum.inr (Sum.inl (x1, x2, x3, x4, (x5 + ci 1), s)))
  else
    b1 (F_X11_cell 76 s x5) fun v8 =>
    b1 (F_X11_cell 76 s x6) fun v10 =>
    b1 (F_X11_share s v8 v10) fun v12 =>
    if v12 ≤ x4 then
      F_X0_bestPair_90 x1 x2 x3 x4 x5 x6 s
    else
      F_X0_bestPair_90 x1 x5 x6 v12 x5 x6 s
set_option maxRecDepth 4000 in
theorem k_X0_bestPair_B35 {N : Nat} {xs : Nat → Int32} (d : Nat) {r : Option Value × mH} {s : mG} {x1 : Int32} {x2 : Int32} {x3 : Int32} {x4 : Int32} {x5 : Int32} {x6 : Int32} {τ : ((Int32 × Int32 × Int32 × Int32 × Int32 × Int32 × mG) ⊕ ((Int32 × Int32 × Int32 × Int32 × Int32 × mG) ⊕ (Int32 × mG)))} (hJ : F_X0_bestPair_B35 x1 x2 x3 x4 x5 x6 s = some τ) (hC : (C_X0_bestPair_35 N xs d r (C_X0_bestPair_14 N xs d r (fun τ => r = (some (.int τ.1), (SH, τ.2))))) τ) : Rn N xs (d + 5) me21 35 [some (.ref 73), some (.int x1), some (.int x2), some (.int x3), some (.int x4), some (.int x5), some (.int x6), none] [] (SH, s) r := by
  unfold F_X0_bestPair_B35 at hJ
  refine Rn_sq srt21 20 6 (pc' := (if (s.1 2 3) ≤ x6 then 96 else 50)) (ls' := [some (.ref 73), some (.int x1), some (.int x2), some (.int x3), some (.int x4), some (.int x5), some (.int x6), none]) (st' := []) (h1 := (SH, s)) rfl (Rn_if (fun h6 => ?_) (fun h6 => ?_))
  · replace hJ := m_ifp h6 hJ
    refine Rn_sq srt21 47 2 (pc' := 14) (ls' := [some (.ref 73), some (.int x1), some (.int x2), some (.int x3), some (.int x4), some (.int (x5 + ci 1)), some (.int x6), none]) (st' := []) (h1 := (SH, s)) rfl ?_
    rw [← Option.some.inj hJ] at hC
    exact Rn_weaken (a := [some (.ref 73), some (.int x1), some (.int x2), some (.int x3), some (.int x4), some (.int (x5 + ci 1)), none, none]) (b := [some (.ref 73), some (.int x1), some (.int x2), some (.int x3), some (.int x4), some (.int (x5 + ci 1)), some (.int x6), none]) (And.intro rfl (And.intro rfl (And.intro rfl (And.intro rfl (And.intro rfl (And.intro rfl trivial)))))) rfl hC
  · replace hJ := m_ifn h6 hJ
    refine Rn_sq srt21 26 3 (pc' := 56) (ls' := [some (.ref 73), some (.int x1), some (.int x2), some (.int x3), some (.int x4), some (.int x5), some (.int x6), none]) (st' := [(.int x5), (.ref 76)]) (h1 := (SH, s)) rfl ?_
    obtain ⟨v8, h7, hJ⟩ := m_b1 hJ
    refine Rn_call srt21 29 rfl rfl rfl ⟨Nat.le_of_ble_eq_true rfl, Nat.le_of_ble_eq_true rfl, rfl, Nat.le_of_ble_eq_true rfl⟩ (k_X11_cell 76 (d + 4) h7) (show Rn N xs (d + 5) me21 59 [some (.ref 73), some (.int x1), some (.int x2), some (.int x3), some (.int x4), some (.int x5), some (.int x6), none] [(.int v8)] (SH, s) r from ?_)
    refine Rn_sq srt21 30 3 (pc' := 65) (ls' := [some (.ref 73), some (.int x1), some (.int x2), some (.int x3), some (.int x4), some (.int x5), some (.int x6), none]) (st' := [(.int x6), (.ref 76), (.int v8)]) (h1 := (SH, s)) rfl ?_
    obtain ⟨v10, h9, hJ⟩ := m_b1 hJ
    refine Rn_call srt21 33 rfl rfl rfl ⟨Nat.le_of_ble_eq_true rfl, Nat.le_of_ble_eq_true rfl, rfl, Nat.le_of_ble_eq_true rfl⟩ (k_X11_cell 76 (d + 4) h9) (show Rn N xs (d + 5) me21 68 [some (.ref 73), some (.int x1), some (.int x2), some (.int x3), some (.int x4), some (.int x5), some (.int x6), none] [(.int v10), (.int v8)] (SH, s) r from ?_)
    obtain ⟨v12, h11, hJ⟩ := m_b1 hJ
    refine Rn_call srt21 34 rfl rfl rfl ⟨Nat.le_of_ble_eq_true rfl, Nat.le_of_ble_eq_true rfl, rfl, Nat.le_of_ble_eq_true rfl⟩ (k_X11_share (d + 4) h11) (show Rn N xs (d + 5) me21 71 [some (.ref 73), some (.int x1), some (.int x2), some (.int x3), some (.int x4), some (.int x5), some (.int x6), none] [(.int v12)] (SH, s) r from ?_)
    refine Rn_sq srt21 35 4 (pc' := (if v12 ≤ x4 then 90 else 80)) (ls' := [some (.ref 73), some (.int x1), some (.int x2), some (.int x3), some (.int x4), some (.int x5), some (.int x6), some (.int v12)]) (st' := []) (h1 := (SH, s)) rfl (Rn_if (fun h13 => ?_) (fun h13 => ?_))
    · replace hJ := m_ifp h13 hJ
      exact Rn_weaken (a := [some (.ref 73), some (.int x1), some (.int x2), some (.int x3), some (.int x4), some (.int x5), some (.int x6), none]) (b := [some (.ref 73), some (.int x1), some (.int x2), some (.int x3), some (.int x4), some (.int x5), some (.int x6), some (.int v12)]) (And.intro rfl (And.intro rfl (And.intro rfl (And.intro rfl (And.intro rfl (And.intro rfl (And.intro rfl trivial))))))) rfl (k_X0_bestPair_90 d hJ hC)
    · replace hJ := m_ifn h13 hJ
      refine Rn_sq srt21 39 6 (pc' := 90) (ls' := [some (.ref 73), some (.int x1), some (.int x5), some (.int x6), some (.int v12), some (.int x5), some (.int x6), some (.int v12)]) (st' := []) (h1 := (SH, s)) rfl ?_
      exact Rn_weaken (a := [some (.ref 73), some (.int x1), some (.int x5), some (.int x6), some (.int v12), some (.int x5), some (.int x6), none]) (b := [some (.ref 73), some (.int x1), some (.int x5), some (.int x6), some (.int v12), some (.int x5), some (.int x6), some (.int v12)]) (And.intro rfl (And.intro rfl (And.intro rfl (And.intro rfl (And.intro rfl (And.intro rfl (And.intro rfl trivial))))))) rfl (k_X0_bestPair_90 d hJ hC)
def F_X0_bestPair_L35 (x1 : Int32) (x2 : Int32) (x3 : Int32) (x4 : Int32) (x5 : Int32) (x6 : Int32) (s : mG) : Option ((Int32 × Int32 × Int32 × Int32 × Int32 × mG) ⊕ (Int32 × mG)) := whl (fun (v : (Int32 × Int32 × Int32 × Int32 × Int32 × Int32 × mG)) => F_X0_bestPair_B35 v.1 v.2.1 v.2.2.1 v.2.2.2.1 v.2.2.2.2.1 v.2.2.2.2.2.1 v.2.2.2.2.2.2) (x1, x2, x3, x4, x5, x6, s)
theorem k_X0_bestPair_L35 {N : Nat} {xs : Nat → Int32} (d : Nat) {r : Option Value × mH} {s : mG} {x1 : Int32} {x2 : Int32} {x3 : Int32} {x4 : Int32} {x5 : Int32} {x6 : Int32} {τ : ((Int32 × Int32 × Int32 × Int32 × Int32 × mG) ⊕ (Int32 × mG))} (hJ : F_X0_bestPair_L35 x1 x2 x3 x4 x5 x6 s = some τ) (hC : (C_X0_bestPair_14 N xs d r (fun τ => r = (some (.int τ.1), (SH, τ.2)))) τ) : Rn N xs (d + 5) me21 35 [some (.ref 73), some (.int x1), some (.int x2), some (.int x3), some (.int x4), some (.int x5), some (.int x6), none] [] (SH, s) r :=
  whl_link (P := fun (v : (Int32 × Int32 × Int32 × Int32 × Int32 × Int32 × mG)) => Rn N xs (d + 5) me21 35 [some (.ref 73), some (.int v.1), some (.int v.2.1), some (.int v.2.2.1), some (.int v.2.2.2.1), some (.int v.2.2.2.2.1), some (.int v.2.2.2.2.2.1), none] [] (SH, v.2.2.2.2.2.2) r) (C := (C_X0_bestPair_35 N xs d r (C_X0_bestPair_14 N xs d r (fun τ => r = (some (.int τ.1), (SH, τ.2)))))) (fun v τ h1 h2 => k_X0_bestPair_B35 d h1 h2) (fun _ h => h) (fun _ h => h) _ _ hJ hC
def F_X0_bestPair_B14 (x1 : Int32) (x2 : Int32) (x3 : Int32) (x4 : Int32) (x5 : Int32) (s : mG) : Option ((Int32 × Int32 × Int32 × Int32 × Int32 × mG) ⊕ (Int32 × mG)) :=
  if (s.1 2 3) ≤ x5 then
    if x1 = (ci 2) then
      some (Sum.inr (x4, s))
    else
      if x1 = 0 then
        some (Sum.inr (x2, s))
      else
        some (Sum.inr (x3, s))
  else
    F_X0_bestPair_L35 x1 x2 x3 x4 x5 (x5 + (ci 1)) s
set_option maxRecDepth 4000 in
theorem k_X0_bestPair_B14 {N : Nat} {xs : Nat → Int32} (d : Nat) {r : Option Value × mH} {s : mG} {x1 : Int32} {x2 : Int32} {x3 : Int32} {x4 : Int32} {x5 : Int32} {τ : ((Int32 × Int32 × Int32 × Int32 × Int32 × mG) ⊕ (Int32 × mG))} (hJ : F_X0_bestPair_B14 x1 x2 x3 x4 x5 s = some τ) (hC : (C_X0_bestPair_14 N xs d r (fun τ => r = (some (.int τ.1), (SH, τ.2)))) τ) : Rn N xs (d + 5) me21 14 [some (.ref 73), some (.int x1), some (.int x2), some (.int x3), some (.int x4), some (.int x5), none, none] [] (SH, s) r := by
  unfold F_X0_bestPair_B14 at hJ
  refine Rn_sq srt21 10 6 (pc' := (if (s.1 2 3) ≤ x5 then 102 else 29)) (ls' := [some (.ref 73), some (.int x1), some (.int x2), some (.int x3), some (.int x4), some (.int x5), none, none]) (st' := []) (h1 := (SH, s)) rfl (Rn_if (fun h3 => ?_) (fun h3 => ?_))
  · replace hJ := m_ifp h3 hJ
    refine Rn_sq srt21 49 3 (pc' := (if x1 = (ci 2) then 107 else 110)) (ls' := [some (.ref 73), some (.int x1), some (.int x2), some (.int x3), some (.int x4), some (.int x5), none, none]) (st' := []) (h1 := (SH, s)) rfl (Rn_if (fun h4 => ?_) (fun h4 => ?_))
    · replace hJ := m_ifp h4 hJ
      refine Rn_sq srt21 52 1 (pc' := 109) (ls' := [some (.ref 73), some (.int x1), some (.int x2), some (.int x3), some (.int x4), some (.int x5), none, none]) (st' := [(.int x4)]) (h1 := (SH, s)) rfl ?_
      rw [← Option.some.inj hJ] at hC
      have hC : r = (some (.int x4), (SH, s)) := hC
      subst hC
      exact Rn_ret srt21 53 rfl rfl rfl
    · replace hJ := m_ifn h4 hJ
      refine Rn_sq srt21 54 2 (pc' := (if x1 = 0 then 114 else 118)) (ls' := [some (.ref 73), some (.int x1), some (.int x2), some (.int x3), some (.int x4), some (.int x5), none, none]) (st' := []) (h1 := (SH, s)) rfl (Rn_if (fun h5 => ?_) (fun h5 => ?_))
      · replace hJ := m_ifp h5 hJ
        refine Rn_sq srt21 56 2 (pc' := 119) (ls' := [some (.ref 73), some (.int x1), some (.int x2), some (.int x3), some (.int x4), some (.int x5), none, none]) (st' := [(.int x2)]) (h1 := (SH, s)) rfl ?_
        rw [← Option.some.inj hJ] at hC
        have hC : r = (some (.int x2), (SH, s)) := hC
        subst hC
        exact Rn_ret srt21 59 rfl rfl rfl
      · replace hJ := m_ifn h5 hJ
        refine Rn_sq srt21 58 1 (pc' := 119) (ls' := [some (.ref 73), some (.int x1), some (.int x2), some (.int x3), some (.int x4), some (.int x5), none, none]) (st' := [(.int x3)]) (h1 := (SH, s)) rfl ?_
        rw [← Option.some.inj hJ] at hC
        have hC : r = (some (.int x3), (SH, s)) := hC
        subst hC
        exact Rn_ret srt21 59 rfl rfl rfl
  · replace hJ := m_ifn h3 hJ
    refine Rn_sq srt21 16 4 (pc' := 35) (ls' := [some (.ref 73), some (.int x1), some (.int x2), some (.int x3), some (.int x4), some (.int x5), some (.int (x5 + (ci 1))), none]) (st' := []) (h1 := (SH, s)) rfl ?_
    exact (k_X0_bestPair_L35 d hJ hC)
def F_X0_bestPair_L14 (x1 : Int32) (x2 : Int32) (x3 : Int32) (x4 : Int32) (x5 : Int32) (s : mG) : Option (Int32 × mG) := whl (fun (v : (Int32 × Int32 × Int32 × Int32 × Int32 × mG)) => F_X0_bestPair_B14 v.1 v.2.1 v.2.2.1 v.2.2.2.1 v.2.2.2.2.1 v.2.2.2.2.2) (x1, x2, x3, x4, x5, s)
theorem k_X0_bestPair_L14 {N : Nat} {xs : Nat → Int32} (d : Nat) {r : Option Value × mH} {s : mG} {x1 : Int32} {x2 : Int32} {x3 : Int32} {x4 : Int32} {x5 : Int32} {τ : (Int32 × mG)} (hJ : F_X0_bestPair_L14 x1 x2 x3 x4 x5 s = some τ) (hC : (fun τ => r = (some (.int τ.1), (SH, τ.2))) τ) : Rn N xs (d + 5) me21 14 [some (.ref 73), some (.int x1), some (.int x2), some (.int x3), some (.int x4), some (.int x5), none, none] [] (SH, s) r :=
  whl_link (P := fun (v : (Int32 × Int32 × Int32 × Int32 × Int32 × mG)) => Rn N xs (d + 5) me21 14 [some (.ref 73), some (.int v.1), some (.int v.2.1), some (.int v.2.2.1), some (.int v.2.2.2.1), some (.int v.2.2.2.2.1), none, none] [] (SH, v.2.2.2.2.2) r) (C := (C_X0_bestPair_14 N xs d r (fun τ => r = (some (.int τ.1), (SH, τ.2))))) (fun v τ h1 h2 => k_X0_bestPair_B14 d h1 h2) (fun _ h => h) (fun _ h => h) _ _ hJ hC
def F_X0_bestPair (a1 : Int32) (s : mG) : Option (Int32 × mG) :=
  b1 (F_X0_weighAll s) fun s2 =>
  F_X0_bestPair_L14 a1 (ci (-1)) (ci (-1)) (ci (-1)) (ci 0) s2
set_option maxRecDepth 4000 in
theorem k_X0_bestPair_r {N : Nat} {xs : Nat → Int32} (d : Nat) {r : Option Value × mH} {s : mG} {a1 : Int32} {τ : (Int32 × mG)} (hJ : F_X0_bestPair a1 s = some τ) (hC : (fun τ => r = (some (.int τ.1), (SH, τ.2))) τ) : Rn N xs (d + 5) me21 0 [some (.ref 73), some (.int a1), none, none, none, none, none, none] [] (SH, s) r := by
  unfold F_X0_bestPair at hJ
  refine Rn_sq srt21 0 1 (pc' := 1) (ls' := [some (.ref 73), some (.int a1), none, none, none, none, none, none]) (st' := [(.ref 73)]) (h1 := (SH, s)) rfl ?_
  obtain ⟨s2, h1, hJ⟩ := m_b1 hJ
  refine Rn_call srt21 1 rfl rfl rfl ⟨Nat.le_of_ble_eq_true rfl, Nat.le_of_ble_eq_true rfl, rfl, Nat.le_of_ble_eq_true rfl⟩ (k_X0_weighAll (d) h1) (show Rn N xs (d + 5) me21 4 [some (.ref 73), some (.int a1), none, none, none, none, none, none] [] (SH, s2) r from ?_)
  refine Rn_sq srt21 2 8 (pc' := 14) (ls' := [some (.ref 73), some (.int a1), some (.int (ci (-1))), some (.int (ci (-1))), some (.int (ci (-1))), some (.int (ci 0)), none, none]) (st' := []) (h1 := (SH, s2)) rfl ?_
  exact (k_X0_bestPair_L14 d hJ hC)
theorem k_X0_bestPair {N : Nat} {xs : Nat → Int32} (d : Nat) {s : mG} {a1 : Int32} {τ : (Int32 × mG)} (hJ : F_X0_bestPair a1 s = some τ) : Rn N xs (d + 5) me21 0 [some (.ref 73), some (.int a1), none, none, none, none, none, none] [] (SH, s) (some (.int τ.1), (SH, τ.2)) := k_X0_bestPair_r d hJ rfl
/-! IsHeIn$Belief.keylessOut()I -/
theorem srt22 : m_srt mc22 = true := by decide +kernel
def C_X0_keylessOut_8 (N : Nat) (xs : Nat → Int32) (d : Nat) (r : Option Value × mH) (C : (Int32 × mG) → Prop) : ((Int32 × Int32 × mG) ⊕ (Int32 × mG)) → Prop
  | .inl v => Rn N xs (d + 5) me22 8 [some (.ref 73), some (.int v.1), some (.int v.2.1)] [] (SH, v.2.2) r
  | .inr a => C a
def F_X0_keylessOut_52 (x1 : Int32) (x2 : Int32) (s : mG) : Option ((Int32 × Int32 × mG) ⊕ (Int32 × mG)) :=
  some (Sum.inl (x1, (x2 + ci 1), s))
set_option maxRecDepth 4000 in
theorem k_X0_keylessOut_52 {N : Nat} {xs : Nat → Int32} (d : Nat) {r : Option Value × mH} {s : mG} {x1 : Int32} {x2 : Int32} {τ : ((Int32 × Int32 × mG) ⊕ (Int32 × mG))} (hJ : F_X0_keylessOut_52 x1 x2 s = some τ) (hC : (C_X0_keylessOut_8 N xs d r (fun τ => r = (some (.int τ.1), (SH, τ.2)))) τ) : Rn N xs (d + 5) me22 52 [some (.ref 73), some (.int x1), some (.int x2)] [] (SH, s) r := by
  unfold F_X0_keylessOut_52 at hJ
  refine Rn_sq srt22 29 2 (pc' := 8) (ls' := [some (.ref 73), some (.int x1), some (.int (x2 + ci 1))]) (st' := []) (h1 := (SH, s)) rfl ?_
  rw [← Option.some.inj hJ] at hC
  exact hC
def F_X0_keylessOut_B8 (x1 : Int32) (x2 : Int32) (s : mG) : Option ((Int32 × Int32 × mG) ⊕ (Int32 × mG)) :=
  if (s.1 2 3) ≤ x2 then
    some (Sum.inr ((x1 / (ci 1000000)), s))
  else
    b1 (F_X10_at 2 s x2 (ci 3)) fun v5 =>
    if v5 = (ci (-1)) then
      b1 (F_X11_cell 76 s x2) fun v8 =>
      let v9 : Int32 := (x1 + ((ci 1000000) - v8))
      F_X0_keylessOut_52 v9 x2 s
    else
      F_X0_keylessOut_52 x1 x2 s
set_option maxRecDepth 4000 in
theorem k_X0_keylessOut_B8 {N : Nat} {xs : Nat → Int32} (d : Nat) {r : Option Value × mH} {s : mG} {x1 : Int32} {x2 : Int32} {τ : ((Int32 × Int32 × mG) ⊕ (Int32 × mG))} (hJ : F_X0_keylessOut_B8 x1 x2 s = some τ) (hC : (C_X0_keylessOut_8 N xs d r (fun τ => r = (some (.int τ.1), (SH, τ.2)))) τ) : Rn N xs (d + 5) me22 8 [some (.ref 73), some (.int x1), some (.int x2)] [] (SH, s) r := by
  unfold F_X0_keylessOut_B8 at hJ
  refine Rn_sq srt22 6 6 (pc' := (if (s.1 2 3) ≤ x2 then 58 else 22)) (ls' := [some (.ref 73), some (.int x1), some (.int x2)]) (st' := []) (h1 := (SH, s)) rfl (Rn_if (fun h3 => ?_) (fun h3 => ?_))
  · replace hJ := m_ifp h3 hJ
    refine Rn_sq srt22 31 2 (pc' := 61) (ls' := [some (.ref 73), some (.int x1), some (.int x2)]) (st' := [(.int (ci 1000000)), (.int x1)]) (h1 := (SH, s)) rfl ?_
    refine Rn_ev srt22 33 rfl rfl rfl (op_idiv (by decide)) ?_
    rw [← Option.some.inj hJ] at hC
    have hC : r = (some (.int (x1 / (ci 1000000))), (SH, s)) := hC
    subst hC
    exact Rn_ret srt22 34 rfl rfl rfl
  · replace hJ := m_ifn h3 hJ
    refine Rn_sq srt22 12 5 (pc' := 31) (ls' := [some (.ref 73), some (.int x1), some (.int x2)]) (st' := [(.int (ci 3)), (.int x2), (.ref 2)]) (h1 := (SH, s)) rfl ?_
    obtain ⟨v5, h4, hJ⟩ := m_b1 hJ
    refine Rn_call srt22 17 rfl rfl rfl ⟨Nat.le_of_ble_eq_true rfl, Nat.le_of_ble_eq_true rfl, rfl, Nat.le_of_ble_eq_true rfl⟩ (k_X10_at 2 (d + 4) isT_2 h4) (show Rn N xs (d + 5) me22 34 [some (.ref 73), some (.int x1), some (.int x2)] [(.int v5)] (SH, s) r from ?_)
    refine Rn_sq srt22 18 2 (pc' := (if v5 = (ci (-1)) then 38 else 52)) (ls' := [some (.ref 73), some (.int x1), some (.int x2)]) (st' := []) (h1 := (SH, s)) rfl (Rn_if (fun h6 => ?_) (fun h6 => ?_))
    · replace hJ := m_ifp h6 hJ
      refine Rn_sq srt22 20 5 (pc' := 46) (ls' := [some (.ref 73), some (.int x1), some (.int x2)]) (st' := [(.int x2), (.ref 76), (.int (ci 1000000)), (.int x1)]) (h1 := (SH, s)) rfl ?_
      obtain ⟨v8, h7, hJ⟩ := m_b1 hJ
      refine Rn_call srt22 25 rfl rfl rfl ⟨Nat.le_of_ble_eq_true rfl, Nat.le_of_ble_eq_true rfl, rfl, Nat.le_of_ble_eq_true rfl⟩ (k_X11_cell 76 (d + 4) h7) (show Rn N xs (d + 5) me22 49 [some (.ref 73), some (.int x1), some (.int x2)] [(.int v8), (.int (ci 1000000)), (.int x1)] (SH, s) r from ?_)
      extract_lets +onlyGivenNames v9 at hJ
      refine Rn_sq srt22 26 3 (pc' := 52) (ls' := [some (.ref 73), some (.int v9), some (.int x2)]) (st' := []) (h1 := (SH, s)) rfl ?_
      exact (k_X0_keylessOut_52 d hJ hC)
    · replace hJ := m_ifn h6 hJ
      exact (k_X0_keylessOut_52 d hJ hC)
def F_X0_keylessOut_L8 (x1 : Int32) (x2 : Int32) (s : mG) : Option (Int32 × mG) := whl (fun (v : (Int32 × Int32 × mG)) => F_X0_keylessOut_B8 v.1 v.2.1 v.2.2) (x1, x2, s)
theorem k_X0_keylessOut_L8 {N : Nat} {xs : Nat → Int32} (d : Nat) {r : Option Value × mH} {s : mG} {x1 : Int32} {x2 : Int32} {τ : (Int32 × mG)} (hJ : F_X0_keylessOut_L8 x1 x2 s = some τ) (hC : (fun τ => r = (some (.int τ.1), (SH, τ.2))) τ) : Rn N xs (d + 5) me22 8 [some (.ref 73), some (.int x1), some (.int x2)] [] (SH, s) r :=
  whl_link (P := fun (v : (Int32 × Int32 × mG)) => Rn N xs (d + 5) me22 8 [some (.ref 73), some (.int v.1), some (.int v.2.1)] [] (SH, v.2.2) r) (C := (C_X0_keylessOut_8 N xs d r (fun τ => r = (some (.int τ.1), (SH, τ.2))))) (fun v τ h1 h2 => k_X0_keylessOut_B8 d h1 h2) (fun _ h => h) (fun _ h => h) _ _ hJ hC
def F_X0_keylessOut (s : mG) : Option (Int32 × mG) :=
  b1 (F_X0_weighAll s) fun s2 =>
  F_X0_keylessOut_L8 (ci 0) (ci 0) s2
set_option maxRecDepth 4000 in
theorem k_X0_keylessOut_r {N : Nat} {xs : Nat → Int32} (d : Nat) {r : Option Value × mH} {s : mG} {τ : (Int32 × mG)} (hJ : F_X0_keylessOut s = some τ) (hC : (fun τ => r = (some (.int τ.1), (SH, τ.2))) τ) : Rn N xs (d + 5) me22 0 [some (.ref 73), none, none] [] (SH, s) r := by
  unfold F_X0_keylessOut at hJ
  refine Rn_sq srt22 0 1 (pc' := 1) (ls' := [some (.ref 73), none, none]) (st' := [(.ref 73)]) (h1 := (SH, s)) rfl ?_
  obtain ⟨s2, h1, hJ⟩ := m_b1 hJ
  refine Rn_call srt22 1 rfl rfl rfl ⟨Nat.le_of_ble_eq_true rfl, Nat.le_of_ble_eq_true rfl, rfl, Nat.le_of_ble_eq_true rfl⟩ (k_X0_weighAll (d) h1) (show Rn N xs (d + 5) me22 4 [some (.ref 73), none, none] [] (SH, s2) r from ?_)
  refine Rn_sq srt22 2 4 (pc' := 8) (ls' := [some (.ref 73), some (.int (ci 0)), some (.int (ci 0))]) (st' := []) (h1 := (SH, s2)) rfl ?_
  exact (k_X0_keylessOut_L8 d hJ hC)
theorem k_X0_keylessOut {N : Nat} {xs : Nat → Int32} (d : Nat) {s : mG} {τ : (Int32 × mG)} (hJ : F_X0_keylessOut s = some τ) : Rn N xs (d + 5) me22 0 [some (.ref 73), none, none] [] (SH, s) (some (.int τ.1), (SH, τ.2)) := k_X0_keylessOut_r d hJ rfl
/-! IsHeIn$Foresight.bestVisit(IIZ)I -/
theorem srt24 : m_srt mc24 = true := by decide +kernel
def C_X1_bestVisit_20 (N : Nat) (xs : Nat → Int32) (d : Nat) (r : Option Value × mH) (C : (Int32 × mG) → Prop) : ((Int32 × Int32 × Int32 × Int32 × Int32 × mG) ⊕ (Int32 × mG)) → Prop
  | .inl v => Rn N xs (d + 3) me24 20 [some (.ref 77), none, none, some (.int v.1), some (.int v.2.1), some (.int v.2.2.1), some (.int v.2.2.2.1), some (.int v.2.2.2.2.1), none, none] [] (SH, v.2.2.2.2.2) r
  | .inr a => C a
def F_X1_bestVisit_108 (x3 : Int32) (x4 : Int32) (x5 : Int32) (x6 : Int32) (x7 : Int32) (s : mG) : Option ((Int32 × Int32 × Int32 × Int32 × Int32 × mG) ⊕ (Int32 × mG)) :=
  some (Sum.inl (x3, x4, x5, x6, (x7 + ci 1), s))
set_option maxRecDepth 4000 in
theorem k_X1_bestVisit_108 {N : Nat} {xs : Nat → Int32} (d : Nat) {r : Option Value × mH} {s : mG} {x3 : Int32} {x4 : Int32} {x5 : Int32} {x6 : Int32} {x7 : Int32} {τ : ((Int32 × Int32 × Int32 × Int32 × Int32 × mG) ⊕ (Int32 × mG))} (hJ : F_X1_bestVisit_108 x3 x4 x5 x6 x7 s = some τ) (hC : (C_X1_bestVisit_20 N xs d r (fun τ => r = (some (.int τ.1), (SH, τ.2)))) τ) : Rn N xs (d + 3) me24 108 [some (.ref 77), none, none, some (.int x3), some (.int x4), some (.int x5), some (.int x6), some (.int x7), none, none] [] (SH, s) r := by
  unfold F_X1_bestVisit_108 at hJ
  refine Rn_sq srt24 58 2 (pc' := 20) (ls' := [some (.ref 77), none, none, some (.int x3), some (.int x4), some (.int x5), some (.int x6), some (.int (x7 + ci 1)), none, none]) (st' := []) (h1 := (SH, s)) rfl ?_
  rw [← Option.some.inj hJ] at hC
  exact hC
def F_X1_bestVisit_B20 (x3 : Int32) (x4 : Int32) (x5 : Int32) (x6 : Int32) (x7 : Int32) (s : mG) : Option ((Int32 × Int32 × Int32 × Int32 × Int32 × mG) ⊕ (Int32 × mG)) :=
  if (c8 24) ≤ x7 then
    if x3 = 0 then
      some (Sum.inr (x5, s))
    else
      some (Sum.inr (x6, s))
  else
    b1 (F_X3_supposeHour (((s.1 1 10) + x7) - (ci 1)) s) fun s6 =>
    b2 (F_X3_tells (ci 0) s6) fun v9 s8 =>
    let v10 : Int32 := ((x4 * v9) / (c16 1000))
    b2 (F_X3_tells (ci 1) s8) fun v13 s12 =>
    let v14 : Int32 := ((((ci 1000000) - x4) * v13) / (c16 1000))
    if ((x4 - v10) + v14) ≤ x6 then
      F_X1_bestVisit_108 x3 ((x4 - v10) + v14) x5 x6 x7 s12
    else
      F_X1_bestVisit_108 x3 ((x4 - v10) + v14) x7 ((x4 - v10) + v14) x7 s12
set_option maxRecDepth 4000 in
theorem k_X1_bestVisit_B20 {N : Nat} {xs : Nat → Int32} (d : Nat) {r : Option Value × mH} {s : mG} {x3 : Int32} {x4 : Int32} {x5 : Int32} {x6 : Int32} {x7 : Int32} {τ : ((Int32 × Int32 × Int32 × Int32 × Int32 × mG) ⊕ (Int32 × mG))} (hJ : F_X1_bestVisit_B20 x3 x4 x5 x6 x7 s = some τ) (hC : (C_X1_bestVisit_20 N xs d r (fun τ => r = (some (.int τ.1), (SH, τ.2)))) τ) : Rn N xs (d + 3) me24 20 [some (.ref 77), none, none, some (.int x3), some (.int x4), some (.int x5), some (.int x6), some (.int x7), none, none] [] (SH, s) r := by
  unfold F_X1_bestVisit_B20 at hJ
  refine Rn_sq srt24 12 3 (pc' := (if (c8 24) ≤ x7 then 114 else 27)) (ls' := [some (.ref 77), none, none, some (.int x3), some (.int x4), some (.int x5), some (.int x6), some (.int x7), none, none]) (st' := []) (h1 := (SH, s)) rfl (Rn_if (fun h3 => ?_) (fun h3 => ?_))
  · replace hJ := m_ifp h3 hJ
    refine Rn_sq srt24 60 2 (pc' := (if x3 = 0 then 123 else 118)) (ls' := [some (.ref 77), none, none, some (.int x3), some (.int x4), some (.int x5), some (.int x6), some (.int x7), none, none]) (st' := []) (h1 := (SH, s)) rfl (Rn_if (fun h4 => ?_) (fun h4 => ?_))
    · replace hJ := m_ifp h4 hJ
      refine Rn_sq srt24 64 1 (pc' := 125) (ls' := [some (.ref 77), none, none, some (.int x3), some (.int x4), some (.int x5), some (.int x6), some (.int x7), none, none]) (st' := [(.int x5)]) (h1 := (SH, s)) rfl ?_
      rw [← Option.some.inj hJ] at hC
      have hC : r = (some (.int x5), (SH, s)) := hC
      subst hC
      exact Rn_ret srt24 65 rfl rfl rfl
    · replace hJ := m_ifn h4 hJ
      refine Rn_sq srt24 62 2 (pc' := 125) (ls' := [some (.ref 77), none, none, some (.int x3), some (.int x4), some (.int x5), some (.int x6), some (.int x7), none, none]) (st' := [(.int x6)]) (h1 := (SH, s)) rfl ?_
      rw [← Option.some.inj hJ] at hC
      have hC : r = (some (.int x6), (SH, s)) := hC
      subst hC
      exact Rn_ret srt24 65 rfl rfl rfl
  · replace hJ := m_ifn h3 hJ
    refine Rn_sq srt24 15 9 (pc' := 43) (ls' := [some (.ref 77), none, none, some (.int x3), some (.int x4), some (.int x5), some (.int x6), some (.int x7), none, none]) (st' := [(.int (((s.1 1 10) + x7) - (ci 1))), (.ref 68)]) (h1 := (SH, s)) rfl ?_
    obtain ⟨s6, h5, hJ⟩ := m_b1 hJ
    refine Rn_call srt24 24 rfl rfl rfl ⟨Nat.le_of_ble_eq_true rfl, Nat.le_of_ble_eq_true rfl, rfl, Nat.le_of_ble_eq_true rfl⟩ (k_X3_supposeHour (d + 1) h5) (show Rn N xs (d + 3) me24 46 [some (.ref 77), none, none, some (.int x3), some (.int x4), some (.int x5), some (.int x6), some (.int x7), none, none] [] (SH, s6) r from ?_)
    refine Rn_sq srt24 25 4 (pc' := 53) (ls' := [some (.ref 77), none, none, some (.int x3), some (.int x4), some (.int x5), some (.int x6), some (.int x7), none, none]) (st' := [(.int (ci 0)), (.ref 68), (.int x4)]) (h1 := (SH, s6)) rfl ?_
    obtain ⟨v9, s8, h7, hJ⟩ := m_b2 hJ
    refine Rn_call srt24 29 rfl rfl rfl ⟨Nat.le_of_ble_eq_true rfl, Nat.le_of_ble_eq_true rfl, rfl, Nat.le_of_ble_eq_true rfl⟩ (k_X3_tells (d) h7) (show Rn N xs (d + 3) me24 56 [some (.ref 77), none, none, some (.int x3), some (.int x4), some (.int x5), some (.int x6), some (.int x7), none, none] [(.int v9), (.int x4)] (SH, s8) r from ?_)
    refine Rn_sq srt24 30 2 (pc' := 60) (ls' := [some (.ref 77), none, none, some (.int x3), some (.int x4), some (.int x5), some (.int x6), some (.int x7), none, none]) (st' := [(.int (c16 1000)), (.int (x4 * v9))]) (h1 := (SH, s8)) rfl ?_
    refine Rn_ev srt24 32 rfl rfl rfl (op_idiv (by decide)) ?_
    extract_lets +onlyGivenNames v10 at hJ
    refine Rn_sq srt24 33 7 (pc' := 73) (ls' := [some (.ref 77), none, none, some (.int x3), some (.int x4), some (.int x5), some (.int x6), some (.int x7), some (.int v10), none]) (st' := [(.int (ci 1)), (.ref 68), (.int ((ci 1000000) - x4))]) (h1 := (SH, s8)) rfl ?_
    obtain ⟨v13, s12, h11, hJ⟩ := m_b2 hJ
    refine Rn_call srt24 40 rfl rfl rfl ⟨Nat.le_of_ble_eq_true rfl, Nat.le_of_ble_eq_true rfl, rfl, Nat.le_of_ble_eq_true rfl⟩ (k_X3_tells (d) h11) (show Rn N xs (d + 3) me24 76 [some (.ref 77), none, none, some (.int x3), some (.int x4), some (.int x5), some (.int x6), some (.int x7), some (.int v10), none] [(.int v13), (.int ((ci 1000000) - x4))] (SH, s12) r from ?_)
    refine Rn_sq srt24 41 2 (pc' := 80) (ls' := [some (.ref 77), none, none, some (.int x3), some (.int x4), some (.int x5), some (.int x6), some (.int x7), some (.int v10), none]) (st' := [(.int (c16 1000)), (.int (((ci 1000000) - x4) * v13))]) (h1 := (SH, s12)) rfl ?_
    refine Rn_ev srt24 43 rfl rfl rfl (op_idiv (by decide)) ?_
    extract_lets +onlyGivenNames v14 at hJ
    refine Rn_sq srt24 44 10 (pc' := (if ((x4 - v10) + v14) ≤ x6 then 108 else 100)) (ls' := [some (.ref 77), none, none, some (.int x3), some (.int ((x4 - v10) + v14)), some (.int x5), some (.int x6), some (.int x7), some (.int v10), some (.int v14)]) (st' := []) (h1 := (SH, s12)) rfl (Rn_if (fun h15 => ?_) (fun h15 => ?_))
    · replace hJ := m_ifp h15 hJ
      exact Rn_weaken (a := [some (.ref 77), none, none, some (.int x3), some (.int ((x4 - v10) + v14)), some (.int x5), some (.int x6), some (.int x7), none, none]) (b := [some (.ref 77), none, none, some (.int x3), some (.int ((x4 - v10) + v14)), some (.int x5), some (.int x6), some (.int x7), some (.int v10), some (.int v14)]) (And.intro rfl (And.intro rfl (And.intro rfl (And.intro rfl (And.intro rfl (And.intro rfl trivial)))))) rfl (k_X1_bestVisit_108 d hJ hC)
    · replace hJ := m_ifn h15 hJ
      refine Rn_sq srt24 54 4 (pc' := 108) (ls' := [some (.ref 77), none, none, some (.int x3), some (.int ((x4 - v10) + v14)), some (.int x7), some (.int ((x4 - v10) + v14)), some (.int x7), some (.int v10), some (.int v14)]) (st' := []) (h1 := (SH, s12)) rfl ?_
      exact Rn_weaken (a := [some (.ref 77), none, none, some (.int x3), some (.int ((x4 - v10) + v14)), some (.int x7), some (.int ((x4 - v10) + v14)), some (.int x7), none, none]) (b := [some (.ref 77), none, none, some (.int x3), some (.int ((x4 - v10) + v14)), some (.int x7), some (.int ((x4 - v10) + v14)), some (.int x7), some (.int v10), some (.int v14)]) (And.intro rfl (And.intro rfl (And.intro rfl (And.intro rfl (And.intro rfl (And.intro rfl trivial)))))) rfl (k_X1_bestVisit_108 d hJ hC)
def F_X1_bestVisit_L20 (x3 : Int32) (x4 : Int32) (x5 : Int32) (x6 : Int32) (x7 : Int32) (s : mG) : Option (Int32 × mG) := whl (fun (v : (Int32 × Int32 × Int32 × Int32 × Int32 × mG)) => F_X1_bestVisit_B20 v.1 v.2.1 v.2.2.1 v.2.2.2.1 v.2.2.2.2.1 v.2.2.2.2.2) (x3, x4, x5, x6, x7, s)
theorem k_X1_bestVisit_L20 {N : Nat} {xs : Nat → Int32} (d : Nat) {r : Option Value × mH} {s : mG} {x3 : Int32} {x4 : Int32} {x5 : Int32} {x6 : Int32} {x7 : Int32} {τ : (Int32 × mG)} (hJ : F_X1_bestVisit_L20 x3 x4 x5 x6 x7 s = some τ) (hC : (fun τ => r = (some (.int τ.1), (SH, τ.2))) τ) : Rn N xs (d + 3) me24 20 [some (.ref 77), none, none, some (.int x3), some (.int x4), some (.int x5), some (.int x6), some (.int x7), none, none] [] (SH, s) r :=
  whl_link (P := fun (v : (Int32 × Int32 × Int32 × Int32 × Int32 × mG)) => Rn N xs (d + 3) me24 20 [some (.ref 77), none, none, some (.int v.1), some (.int v.2.1), some (.int v.2.2.1), some (.int v.2.2.2.1), some (.int v.2.2.2.2.1), none, none] [] (SH, v.2.2.2.2.2) r) (C := (C_X1_bestVisit_20 N xs d r (fun τ => r = (some (.int τ.1), (SH, τ.2))))) (fun v τ h1 h2 => k_X1_bestVisit_B20 d h1 h2) (fun _ h => h) (fun _ h => h) _ _ hJ hC
def F_X1_bestVisit (a1 : Int32) (a2 : Int32) (a3 : Int32) (s : mG) : Option (Int32 × mG) :=
  b1 (F_X3_face a1 s) fun s2 =>
  F_X1_bestVisit_L20 a3 a2 (ci 0) a2 (ci 1) s2
set_option maxRecDepth 4000 in
theorem k_X1_bestVisit_r {N : Nat} {xs : Nat → Int32} (d : Nat) {r : Option Value × mH} {s : mG} {a1 : Int32} {a2 : Int32} {a3 : Int32} {τ : (Int32 × mG)} (hJ : F_X1_bestVisit a1 a2 a3 s = some τ) (hC : (fun τ => r = (some (.int τ.1), (SH, τ.2))) τ) : Rn N xs (d + 3) me24 0 [some (.ref 77), some (.int a1), some (.int a2), some (.int a3), none, none, none, none, none, none] [] (SH, s) r := by
  unfold F_X1_bestVisit at hJ
  refine Rn_sq srt24 0 3 (pc' := 5) (ls' := [some (.ref 77), some (.int a1), some (.int a2), some (.int a3), none, none, none, none, none, none]) (st' := [(.int a1), (.ref 68)]) (h1 := (SH, s)) rfl ?_
  obtain ⟨s2, h1, hJ⟩ := m_b1 hJ
  refine Rn_call srt24 3 rfl rfl rfl ⟨Nat.le_of_ble_eq_true rfl, Nat.le_of_ble_eq_true rfl, rfl, Nat.le_of_ble_eq_true rfl⟩ (k_X3_face (d) h1) (show Rn N xs (d + 3) me24 8 [some (.ref 77), some (.int a1), some (.int a2), some (.int a3), none, none, none, none, none, none] [] (SH, s2) r from ?_)
  refine Rn_sq srt24 4 8 (pc' := 20) (ls' := [some (.ref 77), some (.int a1), some (.int a2), some (.int a3), some (.int a2), some (.int (ci 0)), some (.int a2), some (.int (ci 1)), none, none]) (st' := []) (h1 := (SH, s2)) rfl ?_
  exact Rn_weaken (a := [some (.ref 77), none, none, some (.int a3), some (.int a2), some (.int (ci 0)), some (.int a2), some (.int (ci 1)), none, none]) (b := [some (.ref 77), some (.int a1), some (.int a2), some (.int a3), some (.int a2), some (.int (ci 0)), some (.int a2), some (.int (ci 1)), none, none]) (And.intro rfl (And.intro rfl (And.intro rfl (And.intro rfl (And.intro rfl (And.intro rfl trivial)))))) rfl (k_X1_bestVisit_L20 d hJ hC)
theorem k_X1_bestVisit {N : Nat} {xs : Nat → Int32} (d : Nat) {s : mG} {a1 : Int32} {a2 : Int32} {a3 : Int32} {τ : (Int32 × mG)} (hJ : F_X1_bestVisit a1 a2 a3 s = some τ) : Rn N xs (d + 3) me24 0 [some (.ref 77), some (.int a1), some (.int a2), some (.int a3), none, none, none, none, none, none] [] (SH, s) (some (.int τ.1), (SH, τ.2)) := k_X1_bestVisit_r d hJ rfl
/-! IsHeIn$Law.suppose(II)V -/
theorem srt56 : m_srt mc56 = true := by decide +kernel
def F_X3_suppose (a1 : Int32) (a2 : Int32) (s : mG) : Option (mG) :=
  b1 (F_X11_put 69 a1 a2 s) fun s2 =>
  some s2
set_option maxRecDepth 4000 in
theorem k_X3_suppose_r {N : Nat} {xs : Nat → Int32} (d : Nat) {r : Option Value × mH} {s : mG} {a1 : Int32} {a2 : Int32} {τ : (mG)} (hJ : F_X3_suppose a1 a2 s = some τ) (hC : (fun τ => r = (none, (SH, τ))) τ) : Rn N xs (d + 1) me56 0 [some (.ref 68), some (.int a1), some (.int a2)] [] (SH, s) r := by
  unfold F_X3_suppose at hJ
  refine Rn_sq srt56 0 4 (pc' := 6) (ls' := [some (.ref 68), some (.int a1), some (.int a2)]) (st' := [(.int a2), (.int a1), (.ref 69)]) (h1 := (SH, s)) rfl ?_
  obtain ⟨s2, h1, hJ⟩ := m_b1 hJ
  refine Rn_call srt56 4 rfl rfl rfl ⟨Nat.le_of_ble_eq_true rfl, Nat.le_of_ble_eq_true rfl, rfl, Nat.le_of_ble_eq_true rfl⟩ (k_X11_put 69 (d) h1) (show Rn N xs (d + 1) me56 9 [some (.ref 68), some (.int a1), some (.int a2)] [] (SH, s2) r from ?_)
  rw [← Option.some.inj hJ] at hC
  have hC : r = (none, (SH, s2)) := hC
  subst hC
  exact Rn_ret srt56 5 rfl rfl rfl
theorem k_X3_suppose {N : Nat} {xs : Nat → Int32} (d : Nat) {s : mG} {a1 : Int32} {a2 : Int32} {τ : (mG)} (hJ : F_X3_suppose a1 a2 s = some τ) : Rn N xs (d + 1) me56 0 [some (.ref 68), some (.int a1), some (.int a2)] [] (SH, s) (none, (SH, τ)) := k_X3_suppose_r d hJ rfl
/-! IsHeIn$Foresight.stillOut(II)I -/
theorem srt25 : m_srt mc25 = true := by decide +kernel
def C_X1_stillOut_14 (N : Nat) (xs : Nat → Int32) (d : Nat) (r : Option Value × mH) (C : (Int32 × mG) → Prop) : ((Int32 × Int32 × Int32 × Int32 × mG) ⊕ (Int32 × mG)) → Prop
  | .inl v => Rn N xs (d + 3) me25 14 [some (.ref 77), some (.int v.1), some (.int v.2.1), some (.int v.2.2.1), some (.int v.2.2.2.1)] [] (SH, v.2.2.2.2) r
  | .inr a => C a
def F_X1_stillOut_B14 (x1 : Int32) (x2 : Int32) (x3 : Int32) (x4 : Int32) (s : mG) : Option ((Int32 × Int32 × Int32 × Int32 × mG) ⊕ (Int32 × mG)) :=
  if x2 ≤ x4 then
    some (Sum.inr (x3, s))
  else
    b1 (F_X3_supposeHour ((s.1 1 10) + x4) s) fun s5 =>
    b1 (F_X10_at 2 s5 x1 (ci 4)) fun v7 =>
    b1 (F_X3_suppose (c8 8) (imin (v7 + x4) (c16 999)) s5) fun s9 =>
    b2 (F_X3_tells (ci 1) s9) fun v12 s11 =>
    let v13 : Int32 := ((x3 * ((c16 1000) - v12)) / (c16 1000))
    some (Sum.inl (x1, x2, v13, (x4 + ci 1), s11))
set_option maxRecDepth 4000 in
theorem k_X1_stillOut_B14 {N : Nat} {xs : Nat → Int32} (d : Nat) {r : Option Value × mH} {s : mG} {x1 : Int32} {x2 : Int32} {x3 : Int32} {x4 : Int32} {τ : ((Int32 × Int32 × Int32 × Int32 × mG) ⊕ (Int32 × mG))} (hJ : F_X1_stillOut_B14 x1 x2 x3 x4 s = some τ) (hC : (C_X1_stillOut_14 N xs d r (fun τ => r = (some (.int τ.1), (SH, τ.2)))) τ) : Rn N xs (d + 3) me25 14 [some (.ref 77), some (.int x1), some (.int x2), some (.int x3), some (.int x4)] [] (SH, s) r := by
  unfold F_X1_stillOut_B14 at hJ
  refine Rn_sq srt25 8 3 (pc' := (if x2 ≤ x4 then 92 else 20)) (ls' := [some (.ref 77), some (.int x1), some (.int x2), some (.int x3), some (.int x4)]) (st' := []) (h1 := (SH, s)) rfl (Rn_if (fun h3 => ?_) (fun h3 => ?_))
  · replace hJ := m_ifp h3 hJ
    refine Rn_sq srt25 46 1 (pc' := 93) (ls' := [some (.ref 77), some (.int x1), some (.int x2), some (.int x3), some (.int x4)]) (st' := [(.int x3)]) (h1 := (SH, s)) rfl ?_
    rw [← Option.some.inj hJ] at hC
    have hC : r = (some (.int x3), (SH, s)) := hC
    subst hC
    exact Rn_ret srt25 47 rfl rfl rfl
  · replace hJ := m_ifn h3 hJ
    refine Rn_sq srt25 11 7 (pc' := 34) (ls' := [some (.ref 77), some (.int x1), some (.int x2), some (.int x3), some (.int x4)]) (st' := [(.int ((s.1 1 10) + x4)), (.ref 68)]) (h1 := (SH, s)) rfl ?_
    obtain ⟨s5, h4, hJ⟩ := m_b1 hJ
    refine Rn_call srt25 18 rfl rfl rfl ⟨Nat.le_of_ble_eq_true rfl, Nat.le_of_ble_eq_true rfl, rfl, Nat.le_of_ble_eq_true rfl⟩ (k_X3_supposeHour (d + 1) h4) (show Rn N xs (d + 3) me25 37 [some (.ref 77), some (.int x1), some (.int x2), some (.int x3), some (.int x4)] [] (SH, s5) r from ?_)
    refine Rn_sq srt25 19 8 (pc' := 52) (ls' := [some (.ref 77), some (.int x1), some (.int x2), some (.int x3), some (.int x4)]) (st' := [(.int (ci 4)), (.int x1), (.ref 2), (.int (c8 8)), (.ref 68)]) (h1 := (SH, s5)) rfl ?_
    obtain ⟨v7, h6, hJ⟩ := m_b1 hJ
    refine Rn_call srt25 27 rfl rfl rfl ⟨Nat.le_of_ble_eq_true rfl, Nat.le_of_ble_eq_true rfl, rfl, Nat.le_of_ble_eq_true rfl⟩ (k_X10_at 2 (d + 2) isT_2 h6) (show Rn N xs (d + 3) me25 55 [some (.ref 77), some (.int x1), some (.int x2), some (.int x3), some (.int x4)] [(.int v7), (.int (c8 8)), (.ref 68)] (SH, s5) r from ?_)
    refine Rn_sq srt25 28 4 (pc' := 64) (ls' := [some (.ref 77), some (.int x1), some (.int x2), some (.int x3), some (.int x4)]) (st' := [(.int (imin (v7 + x4) (c16 999))), (.int (c8 8)), (.ref 68)]) (h1 := (SH, s5)) rfl ?_
    obtain ⟨s9, h8, hJ⟩ := m_b1 hJ
    refine Rn_call srt25 32 rfl rfl rfl ⟨Nat.le_of_ble_eq_true rfl, Nat.le_of_ble_eq_true rfl, rfl, Nat.le_of_ble_eq_true rfl⟩ (k_X3_suppose (d + 1) h8) (show Rn N xs (d + 3) me25 67 [some (.ref 77), some (.int x1), some (.int x2), some (.int x3), some (.int x4)] [] (SH, s9) r from ?_)
    refine Rn_sq srt25 33 5 (pc' := 76) (ls' := [some (.ref 77), some (.int x1), some (.int x2), some (.int x3), some (.int x4)]) (st' := [(.int (ci 1)), (.ref 68), (.int (c16 1000)), (.int x3)]) (h1 := (SH, s9)) rfl ?_
    obtain ⟨v12, s11, h10, hJ⟩ := m_b2 hJ
    refine Rn_call srt25 38 rfl rfl rfl ⟨Nat.le_of_ble_eq_true rfl, Nat.le_of_ble_eq_true rfl, rfl, Nat.le_of_ble_eq_true rfl⟩ (k_X3_tells (d) h10) (show Rn N xs (d + 3) me25 79 [some (.ref 77), some (.int x1), some (.int x2), some (.int x3), some (.int x4)] [(.int v12), (.int (c16 1000)), (.int x3)] (SH, s11) r from ?_)
    refine Rn_sq srt25 39 3 (pc' := 84) (ls' := [some (.ref 77), some (.int x1), some (.int x2), some (.int x3), some (.int x4)]) (st' := [(.int (c16 1000)), (.int (x3 * ((c16 1000) - v12)))]) (h1 := (SH, s11)) rfl ?_
    refine Rn_ev srt25 42 rfl rfl rfl (op_idiv (by decide)) ?_
    extract_lets +onlyGivenNames v13 at hJ
    refine Rn_sq srt25 43 3 (pc' := 14) (ls' := [some (.ref 77), some (.int x1), some (.int x2), some (.int v13), some (.int (x4 + ci 1))]) (st' := []) (h1 := (SH, s11)) rfl ?_
    rw [← Option.some.inj hJ] at hC
    exact hC
def F_X1_stillOut_L14 (x1 : Int32) (x2 : Int32) (x3 : Int32) (x4 : Int32) (s : mG) : Option (Int32 × mG) := whl (fun (v : (Int32 × Int32 × Int32 × Int32 × mG)) => F_X1_stillOut_B14 v.1 v.2.1 v.2.2.1 v.2.2.2.1 v.2.2.2.2) (x1, x2, x3, x4, s)
theorem k_X1_stillOut_L14 {N : Nat} {xs : Nat → Int32} (d : Nat) {r : Option Value × mH} {s : mG} {x1 : Int32} {x2 : Int32} {x3 : Int32} {x4 : Int32} {τ : (Int32 × mG)} (hJ : F_X1_stillOut_L14 x1 x2 x3 x4 s = some τ) (hC : (fun τ => r = (some (.int τ.1), (SH, τ.2))) τ) : Rn N xs (d + 3) me25 14 [some (.ref 77), some (.int x1), some (.int x2), some (.int x3), some (.int x4)] [] (SH, s) r :=
  whl_link (P := fun (v : (Int32 × Int32 × Int32 × Int32 × mG)) => Rn N xs (d + 3) me25 14 [some (.ref 77), some (.int v.1), some (.int v.2.1), some (.int v.2.2.1), some (.int v.2.2.2.1)] [] (SH, v.2.2.2.2) r) (C := (C_X1_stillOut_14 N xs d r (fun τ => r = (some (.int τ.1), (SH, τ.2))))) (fun v τ h1 h2 => k_X1_stillOut_B14 d h1 h2) (fun _ h => h) (fun _ h => h) _ _ hJ hC
def F_X1_stillOut (a1 : Int32) (a2 : Int32) (s : mG) : Option (Int32 × mG) :=
  b1 (F_X3_face a1 s) fun s2 =>
  F_X1_stillOut_L14 a1 a2 (ci 1000000) (ci 0) s2
set_option maxRecDepth 4000 in
theorem k_X1_stillOut_r {N : Nat} {xs : Nat → Int32} (d : Nat) {r : Option Value × mH} {s : mG} {a1 : Int32} {a2 : Int32} {τ : (Int32 × mG)} (hJ : F_X1_stillOut a1 a2 s = some τ) (hC : (fun τ => r = (some (.int τ.1), (SH, τ.2))) τ) : Rn N xs (d + 3) me25 0 [some (.ref 77), some (.int a1), some (.int a2), none, none] [] (SH, s) r := by
  unfold F_X1_stillOut at hJ
  refine Rn_sq srt25 0 3 (pc' := 5) (ls' := [some (.ref 77), some (.int a1), some (.int a2), none, none]) (st' := [(.int a1), (.ref 68)]) (h1 := (SH, s)) rfl ?_
  obtain ⟨s2, h1, hJ⟩ := m_b1 hJ
  refine Rn_call srt25 3 rfl rfl rfl ⟨Nat.le_of_ble_eq_true rfl, Nat.le_of_ble_eq_true rfl, rfl, Nat.le_of_ble_eq_true rfl⟩ (k_X3_face (d) h1) (show Rn N xs (d + 3) me25 8 [some (.ref 77), some (.int a1), some (.int a2), none, none] [] (SH, s2) r from ?_)
  refine Rn_sq srt25 4 4 (pc' := 14) (ls' := [some (.ref 77), some (.int a1), some (.int a2), some (.int (ci 1000000)), some (.int (ci 0))]) (st' := []) (h1 := (SH, s2)) rfl ?_
  exact (k_X1_stillOut_L14 d hJ hC)
theorem k_X1_stillOut {N : Nat} {xs : Nat → Int32} (d : Nat) {s : mG} {a1 : Int32} {a2 : Int32} {τ : (Int32 × mG)} (hJ : F_X1_stillOut a1 a2 s = some τ) : Rn N xs (d + 3) me25 0 [some (.ref 77), some (.int a1), some (.int a2), none, none] [] (SH, s) (some (.int τ.1), (SH, τ.2)) := k_X1_stillOut_r d hJ rfl
/-! IsHeIn$House.isOut(I)Z -/
theorem srt44 : m_srt mc44 = true := by decide +kernel
def F_X2_isOut (hh : Nat) (s : mG) (a1 : Int32) : Option (Int32) :=
  b1 (F_X10_at (hh + 1) s a1 (ci 2)) fun v2 =>
  if v2 = (ci 1) then
    some (ci 1)
  else
    some (ci 0)
set_option maxRecDepth 4000 in
theorem k_X2_isOut_r {N : Nat} {xs : Nat → Int32} (hh : Nat) (d : Nat) (h_hh : isH hh) {r : Option Value × mH} {s : mG} {a1 : Int32} {τ : (Int32)} (hJ : F_X2_isOut hh s a1 = some τ) (hC : (fun τ => r = (some (.int τ), (SH, s))) τ) : Rn N xs (d + 1) me44 0 [some (.ref hh), some (.int a1)] [] (SH, s) r := by
  unfold F_X2_isOut at hJ
  refine Rn_sq srt44 0 1 (pc' := 1) (ls' := [some (.ref hh), some (.int a1)]) (st' := [(.ref hh)]) (h1 := (SH, s)) rfl ?_
  refine Rn_ev srt44 1 rfl rfl rfl (op_gfH0 h_hh) ?_
  refine Rn_sq srt44 2 2 (pc' := 6) (ls' := [some (.ref hh), some (.int a1)]) (st' := [(.int (ci 2)), (.int a1), (.ref (hh + 1))]) (h1 := (SH, s)) rfl ?_
  obtain ⟨v2, h1, hJ⟩ := m_b1 hJ
  refine Rn_call srt44 4 rfl rfl rfl ⟨Nat.le_of_ble_eq_true rfl, Nat.le_of_ble_eq_true rfl, (recv_T (isH_t h_hh 0 (by decide))), Nat.le_of_ble_eq_true rfl⟩ (k_X10_at (hh + 1) (d) (isH_t h_hh 0 (by decide)) h1) (show Rn N xs (d + 1) me44 9 [some (.ref hh), some (.int a1)] [(.int v2)] (SH, s) r from ?_)
  refine Rn_sq srt44 5 2 (pc' := (if v2 = (ci 1) then 13 else 17)) (ls' := [some (.ref hh), some (.int a1)]) (st' := []) (h1 := (SH, s)) rfl (Rn_if (fun h3 => ?_) (fun h3 => ?_))
  · replace hJ := m_ifp h3 hJ
    refine Rn_sq srt44 7 2 (pc' := 18) (ls' := [some (.ref hh), some (.int a1)]) (st' := [(.int (ci 1))]) (h1 := (SH, s)) rfl ?_
    rw [← Option.some.inj hJ] at hC
    have hC : r = (some (.int (ci 1)), (SH, s)) := hC
    subst hC
    exact Rn_ret srt44 10 rfl rfl (m_ret_b rfl (by decide))
  · replace hJ := m_ifn h3 hJ
    refine Rn_sq srt44 9 1 (pc' := 18) (ls' := [some (.ref hh), some (.int a1)]) (st' := [(.int (ci 0))]) (h1 := (SH, s)) rfl ?_
    rw [← Option.some.inj hJ] at hC
    have hC : r = (some (.int (ci 0)), (SH, s)) := hC
    subst hC
    exact Rn_ret srt44 10 rfl rfl (m_ret_b rfl (by decide))
theorem k_X2_isOut {N : Nat} {xs : Nat → Int32} (hh : Nat) (d : Nat) (h_hh : isH hh) {s : mG} {a1 : Int32} {τ : (Int32)} (hJ : F_X2_isOut hh s a1 = some τ) : Rn N xs (d + 1) me44 0 [some (.ref hh), some (.int a1)] [] (SH, s) (some (.int τ), (SH, s)) := k_X2_isOut_r hh d h_hh hJ rfl
/-! IsHeIn$Foresight.movesAt(I)I -/
theorem srt27 : m_srt mc27 = true := by decide +kernel
def C_X1_movesAt_4 (N : Nat) (xs : Nat → Int32) (d : Nat) (r : Option Value × mH) (C : (Int32 × mG) → Prop) : ((Int32 × Int32 × Int32 × mG) ⊕ (Int32 × mG)) → Prop
  | .inl v => Rn N xs (d + 3) me27 4 [some (.ref 77), some (.int v.1), some (.int v.2.1), some (.int v.2.2.1)] [] (SH, v.2.2.2) r
  | .inr a => C a
def F_X1_movesAt_56 (x1 : Int32) (x3 : Int32) (y0 : Int32) (y2 : Int32) (s : mG) : Option ((Int32 × Int32 × Int32 × mG) ⊕ (Int32 × mG)) :=
  b2 (F_X3_tells y2 s) fun v11 s10 =>
  some (Sum.inl (x1, (y0 + v11), (x3 + ci 1), s10))
set_option maxRecDepth 4000 in
theorem k_X1_movesAt_56 {N : Nat} {xs : Nat → Int32} (d : Nat) {r : Option Value × mH} {s : mG} {x1 : Int32} {x3 : Int32} {y0 : Int32} {y2 : Int32} {τ : ((Int32 × Int32 × Int32 × mG) ⊕ (Int32 × mG))} (hJ : F_X1_movesAt_56 x1 x3 y0 y2 s = some τ) (hC : (C_X1_movesAt_4 N xs d r (fun τ => r = (some (.int τ.1), (SH, τ.2)))) τ) : Rn N xs (d + 3) me27 56 [some (.ref 77), some (.int x1), none, some (.int x3)] [(.int y2), (.ref 68), (.int y0)] (SH, s) r := by
  unfold F_X1_movesAt_56 at hJ
  obtain ⟨v11, s10, h9, hJ⟩ := m_b2 hJ
  refine Rn_call srt27 30 rfl rfl rfl ⟨Nat.le_of_ble_eq_true rfl, Nat.le_of_ble_eq_true rfl, rfl, Nat.le_of_ble_eq_true rfl⟩ (k_X3_tells (d) h9) (show Rn N xs (d + 3) me27 59 [some (.ref 77), some (.int x1), none, some (.int x3)] [(.int v11), (.int y0)] (SH, s10) r from ?_)
  refine Rn_sq srt27 31 4 (pc' := 4) (ls' := [some (.ref 77), some (.int x1), some (.int (y0 + v11)), some (.int (x3 + ci 1))]) (st' := []) (h1 := (SH, s10)) rfl ?_
  rw [← Option.some.inj hJ] at hC
  exact hC
def F_X1_movesAt_B4 (x1 : Int32) (x2 : Int32) (x3 : Int32) (s : mG) : Option ((Int32 × Int32 × Int32 × mG) ⊕ (Int32 × mG)) :=
  if (s.1 2 3) ≤ x3 then
    some (Sum.inr (x2, s))
  else
    b1 (F_X3_face x3 s) fun s3 =>
    b1 (F_X3_suppose (ci 3) x1 s3) fun s5 =>
    b1 (F_X2_isOut 1 s5 x3) fun v7 =>
    if v7 = 0 then
      F_X1_movesAt_56 x1 x3 x2 (ci 0) s5
    else
      F_X1_movesAt_56 x1 x3 x2 (ci 1) s5
set_option maxRecDepth 4000 in
theorem k_X1_movesAt_B4 {N : Nat} {xs : Nat → Int32} (d : Nat) {r : Option Value × mH} {s : mG} {x1 : Int32} {x2 : Int32} {x3 : Int32} {τ : ((Int32 × Int32 × Int32 × mG) ⊕ (Int32 × mG))} (hJ : F_X1_movesAt_B4 x1 x2 x3 s = some τ) (hC : (C_X1_movesAt_4 N xs d r (fun τ => r = (some (.int τ.1), (SH, τ.2)))) τ) : Rn N xs (d + 3) me27 4 [some (.ref 77), some (.int x1), some (.int x2), some (.int x3)] [] (SH, s) r := by
  unfold F_X1_movesAt_B4 at hJ
  refine Rn_sq srt27 4 6 (pc' := (if (s.1 2 3) ≤ x3 then 67 else 18)) (ls' := [some (.ref 77), some (.int x1), some (.int x2), some (.int x3)]) (st' := []) (h1 := (SH, s)) rfl (Rn_if (fun h1 => ?_) (fun h1 => ?_))
  · replace hJ := m_ifp h1 hJ
    refine Rn_sq srt27 35 1 (pc' := 68) (ls' := [some (.ref 77), some (.int x1), some (.int x2), some (.int x3)]) (st' := [(.int x2)]) (h1 := (SH, s)) rfl ?_
    rw [← Option.some.inj hJ] at hC
    have hC : r = (some (.int x2), (SH, s)) := hC
    subst hC
    exact Rn_ret srt27 36 rfl rfl rfl
  · replace hJ := m_ifn h1 hJ
    refine Rn_sq srt27 10 3 (pc' := 23) (ls' := [some (.ref 77), some (.int x1), some (.int x2), some (.int x3)]) (st' := [(.int x3), (.ref 68)]) (h1 := (SH, s)) rfl ?_
    obtain ⟨s3, h2, hJ⟩ := m_b1 hJ
    refine Rn_call srt27 13 rfl rfl rfl ⟨Nat.le_of_ble_eq_true rfl, Nat.le_of_ble_eq_true rfl, rfl, Nat.le_of_ble_eq_true rfl⟩ (k_X3_face (d) h2) (show Rn N xs (d + 3) me27 26 [some (.ref 77), some (.int x1), some (.int x2), some (.int x3)] [] (SH, s3) r from ?_)
    refine Rn_sq srt27 14 4 (pc' := 32) (ls' := [some (.ref 77), some (.int x1), some (.int x2), some (.int x3)]) (st' := [(.int x1), (.int (ci 3)), (.ref 68)]) (h1 := (SH, s3)) rfl ?_
    obtain ⟨s5, h4, hJ⟩ := m_b1 hJ
    refine Rn_call srt27 18 rfl rfl rfl ⟨Nat.le_of_ble_eq_true rfl, Nat.le_of_ble_eq_true rfl, rfl, Nat.le_of_ble_eq_true rfl⟩ (k_X3_suppose (d + 1) h4) (show Rn N xs (d + 3) me27 35 [some (.ref 77), some (.int x1), some (.int x2), some (.int x3)] [] (SH, s5) r from ?_)
    refine Rn_sq srt27 19 6 (pc' := 45) (ls' := [some (.ref 77), some (.int x1), some (.int x2), some (.int x3)]) (st' := [(.int x3), (.ref 1), (.ref 68), (.int x2)]) (h1 := (SH, s5)) rfl ?_
    obtain ⟨v7, h6, hJ⟩ := m_b1 hJ
    refine Rn_call srt27 25 rfl rfl rfl ⟨Nat.le_of_ble_eq_true rfl, Nat.le_of_ble_eq_true rfl, rfl, Nat.le_of_ble_eq_true rfl⟩ (k_X2_isOut 1 (d + 1) isH_1 h6) (show Rn N xs (d + 3) me27 48 [some (.ref 77), some (.int x1), some (.int x2), some (.int x3)] [(.int v7), (.ref 68), (.int x2)] (SH, s5) r from ?_)
    refine Rn_sq srt27 26 1 (pc' := (if v7 = 0 then 55 else 51)) (ls' := [some (.ref 77), some (.int x1), some (.int x2), some (.int x3)]) (st' := [(.ref 68), (.int x2)]) (h1 := (SH, s5)) rfl (Rn_if (fun h8 => ?_) (fun h8 => ?_))
    · replace hJ := m_ifp h8 hJ
      refine Rn_sq srt27 29 1 (pc' := 56) (ls' := [some (.ref 77), some (.int x1), some (.int x2), some (.int x3)]) (st' := [(.int (ci 0)), (.ref 68), (.int x2)]) (h1 := (SH, s5)) rfl ?_
      exact Rn_weaken (a := [some (.ref 77), some (.int x1), none, some (.int x3)]) (b := [some (.ref 77), some (.int x1), some (.int x2), some (.int x3)]) (And.intro rfl (And.intro rfl (And.intro rfl trivial))) rfl (k_X1_movesAt_56 d hJ hC)
    · replace hJ := m_ifn h8 hJ
      refine Rn_sq srt27 27 2 (pc' := 56) (ls' := [some (.ref 77), some (.int x1), some (.int x2), some (.int x3)]) (st' := [(.int (ci 1)), (.ref 68), (.int x2)]) (h1 := (SH, s5)) rfl ?_
      exact Rn_weaken (a := [some (.ref 77), some (.int x1), none, some (.int x3)]) (b := [some (.ref 77), some (.int x1), some (.int x2), some (.int x3)]) (And.intro rfl (And.intro rfl (And.intro rfl trivial))) rfl (k_X1_movesAt_56 d hJ hC)
def F_X1_movesAt_L4 (x1 : Int32) (x2 : Int32) (x3 : Int32) (s : mG) : Option (Int32 × mG) := whl (fun (v : (Int32 × Int32 × Int32 × mG)) => F_X1_movesAt_B4 v.1 v.2.1 v.2.2.1 v.2.2.2) (x1, x2, x3, s)
theorem k_X1_movesAt_L4 {N : Nat} {xs : Nat → Int32} (d : Nat) {r : Option Value × mH} {s : mG} {x1 : Int32} {x2 : Int32} {x3 : Int32} {τ : (Int32 × mG)} (hJ : F_X1_movesAt_L4 x1 x2 x3 s = some τ) (hC : (fun τ => r = (some (.int τ.1), (SH, τ.2))) τ) : Rn N xs (d + 3) me27 4 [some (.ref 77), some (.int x1), some (.int x2), some (.int x3)] [] (SH, s) r :=
  whl_link (P := fun (v : (Int32 × Int32 × Int32 × mG)) => Rn N xs (d + 3) me27 4 [some (.ref 77), some (.int v.1), some (.int v.2.1), some (.int v.2.2.1)] [] (SH, v.2.2.2) r) (C := (C_X1_movesAt_4 N xs d r (fun τ => r = (some (.int τ.1), (SH, τ.2))))) (fun v τ h1 h2 => k_X1_movesAt_B4 d h1 h2) (fun _ h => h) (fun _ h => h) _ _ hJ hC
def F_X1_movesAt (a1 : Int32) (s : mG) : Option (Int32 × mG) :=
  F_X1_movesAt_L4 a1 (ci 0) (ci 0) s
set_option maxRecDepth 4000 in
theorem k_X1_movesAt_r {N : Nat} {xs : Nat → Int32} (d : Nat) {r : Option Value × mH} {s : mG} {a1 : Int32} {τ : (Int32 × mG)} (hJ : F_X1_movesAt a1 s = some τ) (hC : (fun τ => r = (some (.int τ.1), (SH, τ.2))) τ) : Rn N xs (d + 3) me27 0 [some (.ref 77), some (.int a1), none, none] [] (SH, s) r := by
  unfold F_X1_movesAt at hJ
  refine Rn_sq srt27 0 4 (pc' := 4) (ls' := [some (.ref 77), some (.int a1), some (.int (ci 0)), some (.int (ci 0))]) (st' := []) (h1 := (SH, s)) rfl ?_
  exact (k_X1_movesAt_L4 d hJ hC)
theorem k_X1_movesAt {N : Nat} {xs : Nat → Int32} (d : Nat) {s : mG} {a1 : Int32} {τ : (Int32 × mG)} (hJ : F_X1_movesAt a1 s = some τ) : Rn N xs (d + 3) me27 0 [some (.ref 77), some (.int a1), none, none] [] (SH, s) (some (.int τ.1), (SH, τ.2)) := k_X1_movesAt_r d hJ rfl
/-! IsHeIn$Foresight.movesNow()I -/
theorem srt26 : m_srt mc26 = true := by decide +kernel
def F_X1_movesNow (s : mG) : Option (Int32 × mG) :=
  b2 (F_X1_movesAt (rm (s.1 1 10) (c8 24)) s) fun v3 s2 =>
  some (v3, s2)
set_option maxRecDepth 4000 in
theorem k_X1_movesNow_r {N : Nat} {xs : Nat → Int32} (d : Nat) {r : Option Value × mH} {s : mG} {τ : (Int32 × mG)} (hJ : F_X1_movesNow s = some τ) (hC : (fun τ => r = (some (.int τ.1), (SH, τ.2))) τ) : Rn N xs (d + 4) me26 0 [some (.ref 77)] [] (SH, s) r := by
  unfold F_X1_movesNow at hJ
  refine Rn_sq srt26 0 5 (pc' := 10) (ls' := [some (.ref 77)]) (st' := [(.int (c8 24)), (.int (s.1 1 10)), (.ref 77)]) (h1 := (SH, s)) rfl ?_
  refine Rn_ev srt26 5 rfl rfl rfl (op_irem (by decide)) ?_
  obtain ⟨v3, s2, h1, hJ⟩ := m_b2 hJ
  refine Rn_call srt26 6 rfl rfl rfl ⟨Nat.le_of_ble_eq_true rfl, Nat.le_of_ble_eq_true rfl, rfl, Nat.le_of_ble_eq_true rfl⟩ (k_X1_movesAt (d) h1) (show Rn N xs (d + 4) me26 14 [some (.ref 77)] [(.int v3)] (SH, s2) r from ?_)
  rw [← Option.some.inj hJ] at hC
  have hC : r = (some (.int v3), (SH, s2)) := hC
  subst hC
  exact Rn_ret srt26 7 rfl rfl rfl
theorem k_X1_movesNow {N : Nat} {xs : Nat → Int32} (d : Nat) {s : mG} {τ : (Int32 × mG)} (hJ : F_X1_movesNow s = some τ) : Rn N xs (d + 4) me26 0 [some (.ref 77)] [] (SH, s) (some (.int τ.1), (SH, τ.2)) := k_X1_movesNow_r d hJ rfl
/-! IsHeIn$Foresight.busiestClock()I -/
theorem srt28 : m_srt mc28 = true := by decide +kernel
def C_X1_busiestClock_10 (N : Nat) (xs : Nat → Int32) (d : Nat) (r : Option Value × mH) (C : (Int32 × mG) → Prop) : ((Int32 × Int32 × Int32 × mG) ⊕ (Int32 × mG)) → Prop
  | .inl v => Rn N xs (d + 4) me28 10 [some (.ref 77), some (.int v.1), some (.int v.2.1), some (.int v.2.2.1), none] [] (SH, v.2.2.2) r
  | .inr a => C a
def F_X1_busiestClock_34 (x1 : Int32) (x2 : Int32) (x3 : Int32) (s : mG) : Option ((Int32 × Int32 × Int32 × mG) ⊕ (Int32 × mG)) :=
  some (Sum.inl (x1, x2, (x3 + ci 1), s))
set_option maxRecDepth 4000 in
theorem k_X1_busiestClock_34 {N : Nat} {xs : Nat → Int32} (d : Nat) {r : Option Value × mH} {s : mG} {x1 : Int32} {x2 : Int32} {x3 : Int32} {τ : ((Int32 × Int32 × Int32 × mG) ⊕ (Int32 × mG))} (hJ : F_X1_busiestClock_34 x1 x2 x3 s = some τ) (hC : (C_X1_busiestClock_10 N xs d r (fun τ => r = (some (.int τ.1), (SH, τ.2)))) τ) : Rn N xs (d + 4) me28 34 [some (.ref 77), some (.int x1), some (.int x2), some (.int x3), none] [] (SH, s) r := by
  unfold F_X1_busiestClock_34 at hJ
  refine Rn_sq srt28 22 2 (pc' := 10) (ls' := [some (.ref 77), some (.int x1), some (.int x2), some (.int (x3 + ci 1)), none]) (st' := []) (h1 := (SH, s)) rfl ?_
  rw [← Option.some.inj hJ] at hC
  exact hC
def F_X1_busiestClock_B10 (x1 : Int32) (x2 : Int32) (x3 : Int32) (s : mG) : Option ((Int32 × Int32 × Int32 × mG) ⊕ (Int32 × mG)) :=
  if (c8 24) ≤ x3 then
    some (Sum.inr (x1, s))
  else
    b2 (F_X1_movesAt x3 s) fun v7 s6 =>
    if v7 ≤ x2 then
      F_X1_busiestClock_34 x1 x2 x3 s6
    else
      F_X1_busiestClock_34 x3 v7 x3 s6
set_option maxRecDepth 4000 in
theorem k_X1_busiestClock_B10 {N : Nat} {xs : Nat → Int32} (d : Nat) {r : Option Value × mH} {s : mG} {x1 : Int32} {x2 : Int32} {x3 : Int32} {τ : ((Int32 × Int32 × Int32 × mG) ⊕ (Int32 × mG))} (hJ : F_X1_busiestClock_B10 x1 x2 x3 s = some τ) (hC : (C_X1_busiestClock_10 N xs d r (fun τ => r = (some (.int τ.1), (SH, τ.2)))) τ) : Rn N xs (d + 4) me28 10 [some (.ref 77), some (.int x1), some (.int x2), some (.int x3), none] [] (SH, s) r := by
  unfold F_X1_busiestClock_B10 at hJ
  refine Rn_sq srt28 8 3 (pc' := (if (c8 24) ≤ x3 then 40 else 16)) (ls' := [some (.ref 77), some (.int x1), some (.int x2), some (.int x3), none]) (st' := []) (h1 := (SH, s)) rfl (Rn_if (fun h4 => ?_) (fun h4 => ?_))
  · replace hJ := m_ifp h4 hJ
    refine Rn_sq srt28 24 1 (pc' := 41) (ls' := [some (.ref 77), some (.int x1), some (.int x2), some (.int x3), none]) (st' := [(.int x1)]) (h1 := (SH, s)) rfl ?_
    rw [← Option.some.inj hJ] at hC
    have hC : r = (some (.int x1), (SH, s)) := hC
    subst hC
    exact Rn_ret srt28 25 rfl rfl rfl
  · replace hJ := m_ifn h4 hJ
    refine Rn_sq srt28 11 2 (pc' := 18) (ls' := [some (.ref 77), some (.int x1), some (.int x2), some (.int x3), none]) (st' := [(.int x3), (.ref 77)]) (h1 := (SH, s)) rfl ?_
    obtain ⟨v7, s6, h5, hJ⟩ := m_b2 hJ
    refine Rn_call srt28 13 rfl rfl rfl ⟨Nat.le_of_ble_eq_true rfl, Nat.le_of_ble_eq_true rfl, rfl, Nat.le_of_ble_eq_true rfl⟩ (k_X1_movesAt (d) h5) (show Rn N xs (d + 4) me28 21 [some (.ref 77), some (.int x1), some (.int x2), some (.int x3), none] [(.int v7)] (SH, s6) r from ?_)
    refine Rn_sq srt28 14 4 (pc' := (if v7 ≤ x2 then 34 else 29)) (ls' := [some (.ref 77), some (.int x1), some (.int x2), some (.int x3), some (.int v7)]) (st' := []) (h1 := (SH, s6)) rfl (Rn_if (fun h8 => ?_) (fun h8 => ?_))
    · replace hJ := m_ifp h8 hJ
      exact Rn_weaken (a := [some (.ref 77), some (.int x1), some (.int x2), some (.int x3), none]) (b := [some (.ref 77), some (.int x1), some (.int x2), some (.int x3), some (.int v7)]) (And.intro rfl (And.intro rfl (And.intro rfl (And.intro rfl trivial)))) rfl (k_X1_busiestClock_34 d hJ hC)
    · replace hJ := m_ifn h8 hJ
      refine Rn_sq srt28 18 4 (pc' := 34) (ls' := [some (.ref 77), some (.int x3), some (.int v7), some (.int x3), some (.int v7)]) (st' := []) (h1 := (SH, s6)) rfl ?_
      exact Rn_weaken (a := [some (.ref 77), some (.int x3), some (.int v7), some (.int x3), none]) (b := [some (.ref 77), some (.int x3), some (.int v7), some (.int x3), some (.int v7)]) (And.intro rfl (And.intro rfl (And.intro rfl (And.intro rfl trivial)))) rfl (k_X1_busiestClock_34 d hJ hC)
def F_X1_busiestClock_L10 (x1 : Int32) (x2 : Int32) (x3 : Int32) (s : mG) : Option (Int32 × mG) := whl (fun (v : (Int32 × Int32 × Int32 × mG)) => F_X1_busiestClock_B10 v.1 v.2.1 v.2.2.1 v.2.2.2) (x1, x2, x3, s)
theorem k_X1_busiestClock_L10 {N : Nat} {xs : Nat → Int32} (d : Nat) {r : Option Value × mH} {s : mG} {x1 : Int32} {x2 : Int32} {x3 : Int32} {τ : (Int32 × mG)} (hJ : F_X1_busiestClock_L10 x1 x2 x3 s = some τ) (hC : (fun τ => r = (some (.int τ.1), (SH, τ.2))) τ) : Rn N xs (d + 4) me28 10 [some (.ref 77), some (.int x1), some (.int x2), some (.int x3), none] [] (SH, s) r :=
  whl_link (P := fun (v : (Int32 × Int32 × Int32 × mG)) => Rn N xs (d + 4) me28 10 [some (.ref 77), some (.int v.1), some (.int v.2.1), some (.int v.2.2.1), none] [] (SH, v.2.2.2) r) (C := (C_X1_busiestClock_10 N xs d r (fun τ => r = (some (.int τ.1), (SH, τ.2))))) (fun v τ h1 h2 => k_X1_busiestClock_B10 d h1 h2) (fun _ h => h) (fun _ h => h) _ _ hJ hC
def F_X1_busiestClock (s : mG) : Option (Int32 × mG) :=
  b2 (F_X1_movesAt (ci 0) s) fun v3 s2 =>
  F_X1_busiestClock_L10 (ci 0) v3 (ci 1) s2
set_option maxRecDepth 4000 in
theorem k_X1_busiestClock_r {N : Nat} {xs : Nat → Int32} (d : Nat) {r : Option Value × mH} {s : mG} {τ : (Int32 × mG)} (hJ : F_X1_busiestClock s = some τ) (hC : (fun τ => r = (some (.int τ.1), (SH, τ.2))) τ) : Rn N xs (d + 4) me28 0 [some (.ref 77), none, none, none, none] [] (SH, s) r := by
  unfold F_X1_busiestClock at hJ
  refine Rn_sq srt28 0 4 (pc' := 4) (ls' := [some (.ref 77), some (.int (ci 0)), none, none, none]) (st' := [(.int (ci 0)), (.ref 77)]) (h1 := (SH, s)) rfl ?_
  obtain ⟨v3, s2, h1, hJ⟩ := m_b2 hJ
  refine Rn_call srt28 4 rfl rfl rfl ⟨Nat.le_of_ble_eq_true rfl, Nat.le_of_ble_eq_true rfl, rfl, Nat.le_of_ble_eq_true rfl⟩ (k_X1_movesAt (d) h1) (show Rn N xs (d + 4) me28 7 [some (.ref 77), some (.int (ci 0)), none, none, none] [(.int v3)] (SH, s2) r from ?_)
  refine Rn_sq srt28 5 3 (pc' := 10) (ls' := [some (.ref 77), some (.int (ci 0)), some (.int v3), some (.int (ci 1)), none]) (st' := []) (h1 := (SH, s2)) rfl ?_
  exact (k_X1_busiestClock_L10 d hJ hC)
theorem k_X1_busiestClock {N : Nat} {xs : Nat → Int32} (d : Nat) {s : mG} {τ : (Int32 × mG)} (hJ : F_X1_busiestClock s = some τ) : Rn N xs (d + 4) me28 0 [some (.ref 77), none, none, none, none] [] (SH, s) (some (.int τ.1), (SH, τ.2)) := k_X1_busiestClock_r d hJ rfl
end
