noncomputable section
/-! IsHeIn$Table.at(II)I -/
theorem srt133 : m_srt mc133 = true := by decide +kernel
def F_X10_at_67 (t : Nat) (s : mG) : Option (Int32) :=
  some (ci 0)
set_option maxRecDepth 4000 in
theorem k_X10_at_67 {N : Nat} {xs : Nat → Int32} (t : Nat) (d : Nat) (h_t : isT t) {r : Option Value × mH} {s : mG} {τ : (Int32)} (hJ : F_X10_at_67 t s = some τ) (hC : (fun τ => r = (some (.int τ), (SH, s))) τ) : Rn N xs (d + 0) me133 67 [none, none, none, none, none] [] (SH, s) r := by
  unfold F_X10_at_67 at hJ
  refine Rn_sq srt133 37 1 (pc' := 68) (ls' := [none, none, none, none, none]) (st' := [(.int (ci 0))]) (h1 := (SH, s)) rfl ?_
  rw [← Option.some.inj hJ] at hC
  have hC : r = (some (.int (ci 0)), (SH, s)) := hC
  subst hC
  exact Rn_ret srt133 38 rfl rfl rfl
def F_X10_at_38 (t : Nat) (s : mG) (x3 : Int32) (y0 : Int32) : Option (Int32) :=
  if y0 = 0 then
    F_X10_at_67 t s
  else
    if x3 < 0 then
      F_X10_at_67 t s
    else
      if (cn (m_alen (t + 1))) ≤ x3 then
        F_X10_at_67 t s
      else
        if x3 < 0 ∨ m_alen (t + 1) ≤ x3.toNatClampNeg then none else
        some (s.1 (t + 1) x3.toNatClampNeg)
set_option maxRecDepth 4000 in
theorem k_X10_at_38 {N : Nat} {xs : Nat → Int32} (t : Nat) (d : Nat) (h_t : isT t) {r : Option Value × mH} {s : mG} {x3 : Int32} {y0 : Int32} {τ : (Int32)} (hJ : F_X10_at_38 t s x3 y0 = some τ) (hC : (fun τ => r = (some (.int τ), (SH, s))) τ) : Rn N xs (d + 0) me133 38 [some (.ref t), none, none, some (.int x3), none] [(.int y0)] (SH, s) r := by
  unfold F_X10_at_38 at hJ
  refine Rn_sq srt133 22 3 (pc' := (if y0 = 0 then 67 else 45)) (ls' := [some (.ref t), none, none, some (.int x3), some (.int y0)]) (st' := []) (h1 := (SH, s)) rfl (Rn_if (fun h3 => ?_) (fun h3 => ?_))
  · replace hJ := m_ifp h3 hJ
    exact Rn_weaken (a := [none, none, none, none, none]) (b := [some (.ref t), none, none, some (.int x3), some (.int y0)]) trivial rfl (k_X10_at_67 t d h_t hJ hC)
  · replace hJ := m_ifn h3 hJ
    refine Rn_sq srt133 25 2 (pc' := (if x3 < 0 then 67 else 49)) (ls' := [some (.ref t), none, none, some (.int x3), some (.int y0)]) (st' := []) (h1 := (SH, s)) rfl (Rn_if (fun h4 => ?_) (fun h4 => ?_))
    · replace hJ := m_ifp h4 hJ
      exact Rn_weaken (a := [none, none, none, none, none]) (b := [some (.ref t), none, none, some (.int x3), some (.int y0)]) trivial rfl (k_X10_at_67 t d h_t hJ hC)
    · replace hJ := m_ifn h4 hJ
      refine Rn_sq srt133 27 2 (pc' := 51) (ls' := [some (.ref t), none, none, some (.int x3), some (.int y0)]) (st' := [(.ref t), (.int x3)]) (h1 := (SH, s)) rfl ?_
      refine Rn_ev srt133 29 rfl rfl rfl (op_gfT2 h_t) ?_
      refine Rn_ev srt133 30 rfl rfl rfl (op_alT h_t) ?_
      refine Rn_sq srt133 31 1 (pc' := (if (cn (m_alen (t + 1))) ≤ x3 then 67 else 58)) (ls' := [some (.ref t), none, none, some (.int x3), some (.int y0)]) (st' := []) (h1 := (SH, s)) rfl (Rn_if (fun h5 => ?_) (fun h5 => ?_))
      · replace hJ := m_ifp h5 hJ
        exact Rn_weaken (a := [none, none, none, none, none]) (b := [some (.ref t), none, none, some (.int x3), some (.int y0)]) trivial rfl (k_X10_at_67 t d h_t hJ hC)
      · replace hJ := m_ifn h5 hJ
        refine Rn_sq srt133 32 1 (pc' := 59) (ls' := [some (.ref t), none, none, some (.int x3), some (.int y0)]) (st' := [(.ref t)]) (h1 := (SH, s)) rfl ?_
        refine Rn_ev srt133 33 rfl rfl rfl (op_gfT2 h_t) ?_
        refine Rn_sq srt133 34 1 (pc' := 63) (ls' := [some (.ref t), none, none, some (.int x3), some (.int y0)]) (st' := [(.int x3), (.ref (t + 1))]) (h1 := (SH, s)) rfl ?_
        obtain ⟨h6, hJ⟩ := m_gn hJ
        refine Rn_ev srt133 35 rfl rfl rfl (op_ia h_t.2 h6 (k := x3.toNatClampNeg) rfl) ?_
        refine Rn_sq srt133 36 1 (pc' := 68) (ls' := [some (.ref t), none, none, some (.int x3), some (.int y0)]) (st' := [(.int (s.1 (t + 1) x3.toNatClampNeg))]) (h1 := (SH, s)) rfl ?_
        rw [← Option.some.inj hJ] at hC
        have hC : r = (some (.int (s.1 (t + 1) x3.toNatClampNeg)), (SH, s)) := hC
        subst hC
        exact Rn_ret srt133 38 rfl rfl rfl
def F_X10_at_37 (t : Nat) (s : mG) (x3 : Int32) : Option (Int32) :=
  F_X10_at_38 t s x3 (ci 0)
set_option maxRecDepth 4000 in
theorem k_X10_at_37 {N : Nat} {xs : Nat → Int32} (t : Nat) (d : Nat) (h_t : isT t) {r : Option Value × mH} {s : mG} {x3 : Int32} {τ : (Int32)} (hJ : F_X10_at_37 t s x3 = some τ) (hC : (fun τ => r = (some (.int τ), (SH, s))) τ) : Rn N xs (d + 0) me133 37 [some (.ref t), none, none, some (.int x3), none] [] (SH, s) r := by
  unfold F_X10_at_37 at hJ
  refine Rn_sq srt133 21 1 (pc' := 38) (ls' := [some (.ref t), none, none, some (.int x3), none]) (st' := [(.int (ci 0))]) (h1 := (SH, s)) rfl ?_
  exact (k_X10_at_38 t d h_t hJ hC)
def F_X10_at (t : Nat) (s : mG) (a1 : Int32) (a2 : Int32) : Option (Int32) :=
  let v1 : Int32 := ((a1 * (s.1 t 1)) + a2)
  if a1 < 0 then
    F_X10_at_37 t s v1
  else
    if (s.1 t 3) ≤ a1 then
      F_X10_at_37 t s v1
    else
      if a2 < 0 then
        F_X10_at_37 t s v1
      else
        if (s.1 t 1) ≤ a2 then
          F_X10_at_37 t s v1
        else
          F_X10_at_38 t s v1 (ci 1)
set_option maxRecDepth 4000 in
theorem k_X10_at_r {N : Nat} {xs : Nat → Int32} (t : Nat) (d : Nat) (h_t : isT t) {r : Option Value × mH} {s : mG} {a1 : Int32} {a2 : Int32} {τ : (Int32)} (hJ : F_X10_at t s a1 a2 = some τ) (hC : (fun τ => r = (some (.int τ), (SH, s))) τ) : Rn N xs (d + 0) me133 0 [some (.ref t), some (.int a1), some (.int a2), none, none] [] (SH, s) r := by
  unfold F_X10_at at hJ
  refine Rn_sq srt133 0 2 (pc' := 2) (ls' := [some (.ref t), some (.int a1), some (.int a2), none, none]) (st' := [(.ref t), (.int a1)]) (h1 := (SH, s)) rfl ?_
  refine Rn_ev srt133 2 rfl rfl rfl (op_gfT1 h_t) ?_
  extract_lets v1 at hJ
  refine Rn_sq srt133 3 6 (pc' := (if a1 < 0 then 37 else 13)) (ls' := [some (.ref t), some (.int a1), some (.int a2), some (.int v1), none]) (st' := []) (h1 := (SH, s)) rfl (Rn_if (fun h2 => ?_) (fun h2 => ?_))
  · replace hJ := m_ifp h2 hJ
    exact Rn_weaken (a := [some (.ref t), none, none, some (.int v1), none]) (b := [some (.ref t), some (.int a1), some (.int a2), some (.int v1), none]) (And.intro rfl (And.intro rfl trivial)) rfl (k_X10_at_37 t d h_t hJ hC)
  · replace hJ := m_ifn h2 hJ
    refine Rn_sq srt133 9 2 (pc' := 15) (ls' := [some (.ref t), some (.int a1), some (.int a2), some (.int v1), none]) (st' := [(.ref t), (.int a1)]) (h1 := (SH, s)) rfl ?_
    refine Rn_ev srt133 11 rfl rfl rfl (op_gfT3 h_t) ?_
    refine Rn_sq srt133 12 1 (pc' := (if (s.1 t 3) ≤ a1 then 37 else 21)) (ls' := [some (.ref t), some (.int a1), some (.int a2), some (.int v1), none]) (st' := []) (h1 := (SH, s)) rfl (Rn_if (fun h7 => ?_) (fun h7 => ?_))
    · replace hJ := m_ifp h7 hJ
      exact Rn_weaken (a := [some (.ref t), none, none, some (.int v1), none]) (b := [some (.ref t), some (.int a1), some (.int a2), some (.int v1), none]) (And.intro rfl (And.intro rfl trivial)) rfl (k_X10_at_37 t d h_t hJ hC)
    · replace hJ := m_ifn h7 hJ
      refine Rn_sq srt133 13 2 (pc' := (if a2 < 0 then 37 else 25)) (ls' := [some (.ref t), some (.int a1), some (.int a2), some (.int v1), none]) (st' := []) (h1 := (SH, s)) rfl (Rn_if (fun h8 => ?_) (fun h8 => ?_))
      · replace hJ := m_ifp h8 hJ
        exact Rn_weaken (a := [some (.ref t), none, none, some (.int v1), none]) (b := [some (.ref t), some (.int a1), some (.int a2), some (.int v1), none]) (And.intro rfl (And.intro rfl trivial)) rfl (k_X10_at_37 t d h_t hJ hC)
      · replace hJ := m_ifn h8 hJ
        refine Rn_sq srt133 15 2 (pc' := 27) (ls' := [some (.ref t), some (.int a1), some (.int a2), some (.int v1), none]) (st' := [(.ref t), (.int a2)]) (h1 := (SH, s)) rfl ?_
        refine Rn_ev srt133 17 rfl rfl rfl (op_gfT1 h_t) ?_
        refine Rn_sq srt133 18 1 (pc' := (if (s.1 t 1) ≤ a2 then 37 else 33)) (ls' := [some (.ref t), some (.int a1), some (.int a2), some (.int v1), none]) (st' := []) (h1 := (SH, s)) rfl (Rn_if (fun h9 => ?_) (fun h9 => ?_))
        · replace hJ := m_ifp h9 hJ
          exact Rn_weaken (a := [some (.ref t), none, none, some (.int v1), none]) (b := [some (.ref t), some (.int a1), some (.int a2), some (.int v1), none]) (And.intro rfl (And.intro rfl trivial)) rfl (k_X10_at_37 t d h_t hJ hC)
        · replace hJ := m_ifn h9 hJ
          refine Rn_sq srt133 19 2 (pc' := 38) (ls' := [some (.ref t), some (.int a1), some (.int a2), some (.int v1), none]) (st' := [(.int (ci 1))]) (h1 := (SH, s)) rfl ?_
          exact Rn_weaken (a := [some (.ref t), none, none, some (.int v1), none]) (b := [some (.ref t), some (.int a1), some (.int a2), some (.int v1), none]) (And.intro rfl (And.intro rfl trivial)) rfl (k_X10_at_38 t d h_t hJ hC)
theorem k_X10_at {N : Nat} {xs : Nat → Int32} (t : Nat) (d : Nat) (h_t : isT t) {s : mG} {a1 : Int32} {a2 : Int32} {τ : (Int32)} (hJ : F_X10_at t s a1 a2 = some τ) : Rn N xs (d + 0) me133 0 [some (.ref t), some (.int a1), some (.int a2), none, none] [] (SH, s) (some (.int τ), (SH, s)) := k_X10_at_r t d h_t hJ rfl
/-! IsHeIn.put([III)V -/
theorem srt190 : m_srt mc190 = true := by decide +kernel
def F_X11_put (a1 : Nat) (a2 : Int32) (a3 : Int32) (s : mG) : Option (mG) :=
  if a2 < 0 then
    some s
  else
    b1 (mal a1) fun n2 =>
    if (cn n2) ≤ a2 then
      some s
    else
      bs SH[a1]? fun n5 =>
        if a2 < 0 ∨ n5 ≤ a2.toNatClampNeg then none else
        let s8 : mG := (mu s.1 a1 a2.toNatClampNeg a3, s.2)
        some s8
set_option maxRecDepth 4000 in
theorem k_X11_put_r {N : Nat} {xs : Nat → Int32} (a1 : Nat) (d : Nat) {r : Option Value × mH} {s : mG} {a2 : Int32} {a3 : Int32} {τ : (mG)} (hJ : F_X11_put a1 a2 a3 s = some τ) (hC : (fun τ => r = (none, (SH, τ))) τ) : Rn N xs (d + 0) me190 0 [some (.ref a1), some (.int a2), some (.int a3)] [] (SH, s) r := by
  unfold F_X11_put at hJ
  refine Rn_sq srt190 0 4 (pc' := (if a2 < 0 then 18 else 8)) (ls' := [some (.ref a1), some (.int a2), some (.int a3)]) (st' := []) (h1 := (SH, s)) rfl (Rn_if (fun h1 => ?_) (fun h1 => ?_))
  · replace hJ := m_ifp h1 hJ
    rw [← Option.some.inj hJ] at hC
    have hC : r = (none, (SH, s)) := hC
    subst hC
    exact Rn_ret srt190 12 rfl rfl rfl
  · replace hJ := m_ifn h1 hJ
    refine Rn_sq srt190 4 2 (pc' := 10) (ls' := [some (.ref a1), some (.int a2), some (.int a3)]) (st' := [(.ref a1), (.int a2)]) (h1 := (SH, s)) rfl ?_
    obtain ⟨n2, h3, hJ⟩ := m_b1 hJ
    refine Rn_ev srt190 6 rfl rfl rfl (op_alv h3) ?_
    refine Rn_sq srt190 7 1 (pc' := (if (cn n2) ≤ a2 then 18 else 14)) (ls' := [some (.ref a1), some (.int a2), some (.int a3)]) (st' := []) (h1 := (SH, s)) rfl (Rn_if (fun h4 => ?_) (fun h4 => ?_))
    · replace hJ := m_ifp h4 hJ
      rw [← Option.some.inj hJ] at hC
      have hC : r = (none, (SH, s)) := hC
      subst hC
      exact Rn_ret srt190 12 rfl rfl rfl
    · replace hJ := m_ifn h4 hJ
      refine Rn_sq srt190 8 3 (pc' := 17) (ls' := [some (.ref a1), some (.int a2), some (.int a3)]) (st' := [(.int a3), (.int a2), (.ref a1)]) (h1 := (SH, s)) rfl ?_
      obtain ⟨n5, _, h6, hJ⟩ := m_bs hJ
      obtain ⟨h7, hJ⟩ := m_gn hJ
      extract_lets s8 at hJ
      refine Rn_ev srt190 11 rfl rfl rfl (op_ias h6 h7 (k := a2.toNatClampNeg) rfl) ?_
      rw [← Option.some.inj hJ] at hC
      have hC : r = (none, (SH, s8)) := hC
      subst hC
      exact Rn_ret srt190 12 rfl rfl rfl
theorem k_X11_put {N : Nat} {xs : Nat → Int32} (a1 : Nat) (d : Nat) {s : mG} {a2 : Int32} {a3 : Int32} {τ : (mG)} (hJ : F_X11_put a1 a2 a3 s = some τ) : Rn N xs (d + 0) me190 0 [some (.ref a1), some (.int a2), some (.int a3)] [] (SH, s) (none, (SH, τ)) := k_X11_put_r a1 d hJ rfl
/-! IsHeIn$Law.joined(III)I -/
theorem srt59 : m_srt mc59 = true := by decide +kernel
def F_X3_joined_109 (s : mG) : Option (Int32) :=
  some (ci 0)
set_option maxRecDepth 4000 in
theorem k_X3_joined_109 {N : Nat} {xs : Nat → Int32} (d : Nat) {r : Option Value × mH} {s : mG} {τ : (Int32)} (hJ : F_X3_joined_109 s = some τ) (hC : (fun τ => r = (some (.int τ), (SH, s))) τ) : Rn N xs (d + 0) me59 109 [none, none, none] [] (SH, s) r := by
  unfold F_X3_joined_109 at hJ
  refine Rn_sq srt59 43 1 (pc' := 110) (ls' := [none, none, none]) (st' := [(.int (ci 0))]) (h1 := (SH, s)) rfl ?_
  rw [← Option.some.inj hJ] at hC
  have hC : r = (some (.int (ci 0)), (SH, s)) := hC
  subst hC
  exact Rn_ret srt59 44 rfl rfl rfl
def F_X3_joined (s : mG) (a1 : Int32) (a2 : Int32) (a3 : Int32) : Option (Int32) :=
  if a1 = ci 2 then
    some (a2 + a3)
  else
  if a1 = ci 3 then
    some (a2 - a3)
  else
  if a1 = ci 4 then
    some (a2 * a3)
  else
  if a1 = ci 5 then
    F_X3_joined_109 s
  else
  if a1 = ci 6 then
    if a3 ≤ a2 then
      some (ci 0)
    else
      some (ci 1)
  else
  if a1 = ci 7 then
    if a2 = a3 then
      some (ci 1)
    else
      some (ci 0)
  else
  if a1 = ci 8 then
    if a2 ≤ a3 then
      some (ci 0)
    else
      some (ci 1)
  else
  if a1 = ci 9 then
    F_X3_joined_109 s
  else
  if a1 = ci 10 then
    some (a2 &&& a3)
  else
  if a1 = ci 11 then
    some (a2 ||| a3)
  else
  F_X3_joined_109 s
set_option maxRecDepth 4000 in
theorem k_X3_joined_r {N : Nat} {xs : Nat → Int32} (d : Nat) {r : Option Value × mH} {s : mG} {a1 : Int32} {a2 : Int32} {a3 : Int32} {τ : (Int32)} (hJ : F_X3_joined s a1 a2 a3 = some τ) (hC : (fun τ => r = (some (.int τ), (SH, s))) τ) : Rn N xs (d + 0) me59 0 [some (.int a1), some (.int a2), some (.int a3)] [] (SH, s) r := by
  unfold F_X3_joined at hJ
  refine Rn_sq srt59 0 1 (pc' := 1) (ls' := [some (.int a1), some (.int a2), some (.int a3)]) (st' := [(.int a1)]) (h1 := (SH, s)) rfl ?_
  by_cases h1 : a1 = ci 2
  · replace hJ := m_ifp h1 hJ
    refine Rn_ev srt59 1 rfl rfl rfl (op_sw h1 (show _ = some (56, _) from rfl)) ?_
    refine Rn_sq srt59 2 3 (pc' := 59) (ls' := [some (.int a1), some (.int a2), some (.int a3)]) (st' := [(.int (a2 + a3))]) (h1 := (SH, s)) rfl ?_
    rw [← Option.some.inj hJ] at hC
    have hC : r = (some (.int (a2 + a3)), (SH, s)) := hC
    subst hC
    exact Rn_ret srt59 5 rfl rfl rfl
  replace hJ := m_ifn h1 hJ
  by_cases h2 : a1 = ci 3
  · replace hJ := m_ifp h2 hJ
    refine Rn_ev srt59 1 rfl rfl rfl (op_sw h2 (show _ = some (60, _) from rfl)) ?_
    refine Rn_sq srt59 6 3 (pc' := 63) (ls' := [some (.int a1), some (.int a2), some (.int a3)]) (st' := [(.int (a2 - a3))]) (h1 := (SH, s)) rfl ?_
    rw [← Option.some.inj hJ] at hC
    have hC : r = (some (.int (a2 - a3)), (SH, s)) := hC
    subst hC
    exact Rn_ret srt59 9 rfl rfl rfl
  replace hJ := m_ifn h2 hJ
  by_cases h3 : a1 = ci 4
  · replace hJ := m_ifp h3 hJ
    refine Rn_ev srt59 1 rfl rfl rfl (op_sw h3 (show _ = some (64, _) from rfl)) ?_
    refine Rn_sq srt59 10 3 (pc' := 67) (ls' := [some (.int a1), some (.int a2), some (.int a3)]) (st' := [(.int (a2 * a3))]) (h1 := (SH, s)) rfl ?_
    rw [← Option.some.inj hJ] at hC
    have hC : r = (some (.int (a2 * a3)), (SH, s)) := hC
    subst hC
    exact Rn_ret srt59 13 rfl rfl rfl
  replace hJ := m_ifn h3 hJ
  by_cases h4 : a1 = ci 5
  · replace hJ := m_ifp h4 hJ
    refine Rn_ev srt59 1 rfl rfl rfl (op_sw h4 (show _ = some (109, _) from rfl)) ?_
    exact Rn_weaken (a := [none, none, none]) (b := [some (.int a1), some (.int a2), some (.int a3)]) trivial rfl (k_X3_joined_109 d hJ hC)
  replace hJ := m_ifn h4 hJ
  by_cases h5 : a1 = ci 6
  · replace hJ := m_ifp h5 hJ
    refine Rn_ev srt59 1 rfl rfl rfl (op_sw h5 (show _ = some (68, _) from rfl)) ?_
    refine Rn_sq srt59 14 3 (pc' := (if a3 ≤ a2 then 77 else 73)) (ls' := [some (.int a1), some (.int a2), some (.int a3)]) (st' := []) (h1 := (SH, s)) rfl (Rn_if (fun h6 => ?_) (fun h6 => ?_))
    · replace hJ := m_ifp h6 hJ
      refine Rn_sq srt59 19 1 (pc' := 78) (ls' := [some (.int a1), some (.int a2), some (.int a3)]) (st' := [(.int (ci 0))]) (h1 := (SH, s)) rfl ?_
      rw [← Option.some.inj hJ] at hC
      have hC : r = (some (.int (ci 0)), (SH, s)) := hC
      subst hC
      exact Rn_ret srt59 20 rfl rfl rfl
    · replace hJ := m_ifn h6 hJ
      refine Rn_sq srt59 17 2 (pc' := 78) (ls' := [some (.int a1), some (.int a2), some (.int a3)]) (st' := [(.int (ci 1))]) (h1 := (SH, s)) rfl ?_
      rw [← Option.some.inj hJ] at hC
      have hC : r = (some (.int (ci 1)), (SH, s)) := hC
      subst hC
      exact Rn_ret srt59 20 rfl rfl rfl
  replace hJ := m_ifn h5 hJ
  by_cases h7 : a1 = ci 7
  · replace hJ := m_ifp h7 hJ
    refine Rn_ev srt59 1 rfl rfl rfl (op_sw h7 (show _ = some (79, _) from rfl)) ?_
    refine Rn_sq srt59 21 3 (pc' := (if a2 = a3 then 84 else 88)) (ls' := [some (.int a1), some (.int a2), some (.int a3)]) (st' := []) (h1 := (SH, s)) rfl (Rn_if (fun h8 => ?_) (fun h8 => ?_))
    · replace hJ := m_ifp h8 hJ
      refine Rn_sq srt59 24 2 (pc' := 89) (ls' := [some (.int a1), some (.int a2), some (.int a3)]) (st' := [(.int (ci 1))]) (h1 := (SH, s)) rfl ?_
      rw [← Option.some.inj hJ] at hC
      have hC : r = (some (.int (ci 1)), (SH, s)) := hC
      subst hC
      exact Rn_ret srt59 27 rfl rfl rfl
    · replace hJ := m_ifn h8 hJ
      refine Rn_sq srt59 26 1 (pc' := 89) (ls' := [some (.int a1), some (.int a2), some (.int a3)]) (st' := [(.int (ci 0))]) (h1 := (SH, s)) rfl ?_
      rw [← Option.some.inj hJ] at hC
      have hC : r = (some (.int (ci 0)), (SH, s)) := hC
      subst hC
      exact Rn_ret srt59 27 rfl rfl rfl
  replace hJ := m_ifn h7 hJ
  by_cases h9 : a1 = ci 8
  · replace hJ := m_ifp h9 hJ
    refine Rn_ev srt59 1 rfl rfl rfl (op_sw h9 (show _ = some (90, _) from rfl)) ?_
    refine Rn_sq srt59 28 3 (pc' := (if a2 ≤ a3 then 99 else 95)) (ls' := [some (.int a1), some (.int a2), some (.int a3)]) (st' := []) (h1 := (SH, s)) rfl (Rn_if (fun h10 => ?_) (fun h10 => ?_))
    · replace hJ := m_ifp h10 hJ
      refine Rn_sq srt59 33 1 (pc' := 100) (ls' := [some (.int a1), some (.int a2), some (.int a3)]) (st' := [(.int (ci 0))]) (h1 := (SH, s)) rfl ?_
      rw [← Option.some.inj hJ] at hC
      have hC : r = (some (.int (ci 0)), (SH, s)) := hC
      subst hC
      exact Rn_ret srt59 34 rfl rfl rfl
    · replace hJ := m_ifn h10 hJ
      refine Rn_sq srt59 31 2 (pc' := 100) (ls' := [some (.int a1), some (.int a2), some (.int a3)]) (st' := [(.int (ci 1))]) (h1 := (SH, s)) rfl ?_
      rw [← Option.some.inj hJ] at hC
      have hC : r = (some (.int (ci 1)), (SH, s)) := hC
      subst hC
      exact Rn_ret srt59 34 rfl rfl rfl
  replace hJ := m_ifn h9 hJ
  by_cases h11 : a1 = ci 9
  · replace hJ := m_ifp h11 hJ
    refine Rn_ev srt59 1 rfl rfl rfl (op_sw h11 (show _ = some (109, _) from rfl)) ?_
    exact Rn_weaken (a := [none, none, none]) (b := [some (.int a1), some (.int a2), some (.int a3)]) trivial rfl (k_X3_joined_109 d hJ hC)
  replace hJ := m_ifn h11 hJ
  by_cases h12 : a1 = ci 10
  · replace hJ := m_ifp h12 hJ
    refine Rn_ev srt59 1 rfl rfl rfl (op_sw h12 (show _ = some (101, _) from rfl)) ?_
    refine Rn_sq srt59 35 3 (pc' := 104) (ls' := [some (.int a1), some (.int a2), some (.int a3)]) (st' := [(.int (a2 &&& a3))]) (h1 := (SH, s)) rfl ?_
    rw [← Option.some.inj hJ] at hC
    have hC : r = (some (.int (a2 &&& a3)), (SH, s)) := hC
    subst hC
    exact Rn_ret srt59 38 rfl rfl rfl
  replace hJ := m_ifn h12 hJ
  by_cases h13 : a1 = ci 11
  · replace hJ := m_ifp h13 hJ
    refine Rn_ev srt59 1 rfl rfl rfl (op_sw h13 (show _ = some (105, _) from rfl)) ?_
    refine Rn_sq srt59 39 3 (pc' := 108) (ls' := [some (.int a1), some (.int a2), some (.int a3)]) (st' := [(.int (a2 ||| a3))]) (h1 := (SH, s)) rfl ?_
    rw [← Option.some.inj hJ] at hC
    have hC : r = (some (.int (a2 ||| a3)), (SH, s)) := hC
    subst hC
    exact Rn_ret srt59 42 rfl rfl rfl
  replace hJ := m_ifn h13 hJ
  refine Rn_ev srt59 1 rfl rfl rfl (op_swd (tg := 109) (sw_out (by decide) (by decide) (by intro v hv1 hv2; rcases (show v = 2 ∨ v = 3 ∨ v = 4 ∨ v = 5 ∨ v = 6 ∨ v = 7 ∨ v = 8 ∨ v = 9 ∨ v = 10 ∨ v = 11 by omega) with rfl | rfl | rfl | rfl | rfl | rfl | rfl | rfl | rfl | rfl <;> assumption)) rfl) ?_
  exact Rn_weaken (a := [none, none, none]) (b := [some (.int a1), some (.int a2), some (.int a3)]) trivial rfl (k_X3_joined_109 d hJ hC)
theorem k_X3_joined {N : Nat} {xs : Nat → Int32} (d : Nat) {s : mG} {a1 : Int32} {a2 : Int32} {a3 : Int32} {τ : (Int32)} (hJ : F_X3_joined s a1 a2 a3 = some τ) : Rn N xs (d + 0) me59 0 [some (.int a1), some (.int a2), some (.int a3)] [] (SH, s) (some (.int τ), (SH, s)) := k_X3_joined_r d hJ rfl
/-! IsHeIn.cell([II)I -/
theorem srt189 : m_srt mc189 = true := by decide +kernel
def F_X11_cell_20 (a1 : Nat) (s : mG) : Option (Int32) :=
  some (ci 0)
set_option maxRecDepth 4000 in
theorem k_X11_cell_20 {N : Nat} {xs : Nat → Int32} (a1 : Nat) (d : Nat) {r : Option Value × mH} {s : mG} {τ : (Int32)} (hJ : F_X11_cell_20 a1 s = some τ) (hC : (fun τ => r = (some (.int τ), (SH, s))) τ) : Rn N xs (d + 0) me189 20 [none, none] [] (SH, s) r := by
  unfold F_X11_cell_20 at hJ
  refine Rn_sq srt189 12 1 (pc' := 21) (ls' := [none, none]) (st' := [(.int (ci 0))]) (h1 := (SH, s)) rfl ?_
  rw [← Option.some.inj hJ] at hC
  have hC : r = (some (.int (ci 0)), (SH, s)) := hC
  subst hC
  exact Rn_ret srt189 13 rfl rfl rfl
def F_X11_cell (a1 : Nat) (s : mG) (a2 : Int32) : Option (Int32) :=
  if a2 < 0 then
    F_X11_cell_20 a1 s
  else
    b1 (mal a1) fun n2 =>
    if (cn n2) ≤ a2 then
      F_X11_cell_20 a1 s
    else
      b1 (mia s a1 a2) fun v6 =>
      some v6
set_option maxRecDepth 4000 in
theorem k_X11_cell_r {N : Nat} {xs : Nat → Int32} (a1 : Nat) (d : Nat) {r : Option Value × mH} {s : mG} {a2 : Int32} {τ : (Int32)} (hJ : F_X11_cell a1 s a2 = some τ) (hC : (fun τ => r = (some (.int τ), (SH, s))) τ) : Rn N xs (d + 0) me189 0 [some (.ref a1), some (.int a2)] [] (SH, s) r := by
  unfold F_X11_cell at hJ
  refine Rn_sq srt189 0 4 (pc' := (if a2 < 0 then 20 else 8)) (ls' := [some (.ref a1), some (.int a2)]) (st' := []) (h1 := (SH, s)) rfl (Rn_if (fun h1 => ?_) (fun h1 => ?_))
  · replace hJ := m_ifp h1 hJ
    exact Rn_weaken (a := [none, none]) (b := [some (.ref a1), some (.int a2)]) trivial rfl (k_X11_cell_20 a1 d hJ hC)
  · replace hJ := m_ifn h1 hJ
    refine Rn_sq srt189 4 2 (pc' := 10) (ls' := [some (.ref a1), some (.int a2)]) (st' := [(.ref a1), (.int a2)]) (h1 := (SH, s)) rfl ?_
    obtain ⟨n2, h3, hJ⟩ := m_b1 hJ
    refine Rn_ev srt189 6 rfl rfl rfl (op_alv h3) ?_
    refine Rn_sq srt189 7 1 (pc' := (if (cn n2) ≤ a2 then 20 else 14)) (ls' := [some (.ref a1), some (.int a2)]) (st' := []) (h1 := (SH, s)) rfl (Rn_if (fun h4 => ?_) (fun h4 => ?_))
    · replace hJ := m_ifp h4 hJ
      exact Rn_weaken (a := [none, none]) (b := [some (.ref a1), some (.int a2)]) trivial rfl (k_X11_cell_20 a1 d hJ hC)
    · replace hJ := m_ifn h4 hJ
      refine Rn_sq srt189 8 2 (pc' := 16) (ls' := [some (.ref a1), some (.int a2)]) (st' := [(.int a2), (.ref a1)]) (h1 := (SH, s)) rfl ?_
      obtain ⟨v6, h5, hJ⟩ := m_b1 hJ
      refine Rn_ev srt189 10 rfl rfl rfl (op_iav h5) ?_
      refine Rn_sq srt189 11 1 (pc' := 21) (ls' := [some (.ref a1), some (.int a2)]) (st' := [(.int v6)]) (h1 := (SH, s)) rfl ?_
      rw [← Option.some.inj hJ] at hC
      have hC : r = (some (.int v6), (SH, s)) := hC
      subst hC
      exact Rn_ret srt189 13 rfl rfl rfl
theorem k_X11_cell {N : Nat} {xs : Nat → Int32} (a1 : Nat) (d : Nat) {s : mG} {a2 : Int32} {τ : (Int32)} (hJ : F_X11_cell a1 s a2 = some τ) : Rn N xs (d + 0) me189 0 [some (.ref a1), some (.int a2)] [] (SH, s) (some (.int τ), (SH, s)) := k_X11_cell_r a1 d hJ rfl
/-! IsHeIn$Law.valueOf(II)I -/
theorem srt58 : m_srt mc58 = true := by decide +kernel
def C_X3_valueOf_5 (N : Nat) (xs : Nat → Int32) (d : Nat) (r : Option Value × mH) (C : (Int32 × mG) → Prop) : ((Int32 × Int32 × Int32 × mG) ⊕ (Int32 × mG)) → Prop
  | .inl v => Rn N xs (d + 1) me58 5 [some (.ref 68), none, some (.int v.1), some (.int v.2.1), some (.int v.2.2.1), none, none, none] [] (SH, v.2.2.2) r
  | .inr a => C a
def F_X3_valueOf_229 (x2 : Int32) (x3 : Int32) (x4 : Int32) (s : mG) : Option ((Int32 × Int32 × Int32 × mG) ⊕ (Int32 × mG)) :=
  some (Sum.inl (x2, x3, (x4 + ci 1), s))
set_option maxRecDepth 4000 in
theorem k_X3_valueOf_229 {N : Nat} {xs : Nat → Int32} (d : Nat) {r : Option Value × mH} {s : mG} {x2 : Int32} {x3 : Int32} {x4 : Int32} {τ : ((Int32 × Int32 × Int32 × mG) ⊕ (Int32 × mG))} (hJ : F_X3_valueOf_229 x2 x3 x4 s = some τ) (hC : (C_X3_valueOf_5 N xs d r (fun τ => r = (some (.int τ.1), (SH, τ.2)))) τ) : Rn N xs (d + 1) me58 229 [some (.ref 68), none, some (.int x2), some (.int x3), some (.int x4), none, none, none] [] (SH, s) r := by
  unfold F_X3_valueOf_229 at hJ
  refine Rn_sq srt58 91 2 (pc' := 5) (ls' := [some (.ref 68), none, some (.int x2), some (.int x3), some (.int (x4 + ci 1)), none, none, none]) (st' := []) (h1 := (SH, s)) rfl ?_
  rw [← Option.some.inj hJ] at hC
  exact hC
def F_X3_valueOf_199 (x2 : Int32) (x3 : Int32) (x4 : Int32) (x5 : Int32) (x7 : Int32) (s : mG) : Option ((Int32 × Int32 × Int32 × mG) ⊕ (Int32 × mG)) :=
  b1 (F_X11_cell 70 s ((x3 + ci (-1)) - (ci 1))) fun v20 =>
  b1 (F_X3_joined s x5 v20 x7) fun v22 =>
  b1 (F_X11_put 70 ((x3 + ci (-1)) - (ci 1)) v22 s) fun s24 =>
  F_X3_valueOf_229 x2 (x3 + ci (-1)) x4 s24
set_option maxRecDepth 4000 in
theorem k_X3_valueOf_199 {N : Nat} {xs : Nat → Int32} (d : Nat) {r : Option Value × mH} {s : mG} {x2 : Int32} {x3 : Int32} {x4 : Int32} {x5 : Int32} {x7 : Int32} {τ : ((Int32 × Int32 × Int32 × mG) ⊕ (Int32 × mG))} (hJ : F_X3_valueOf_199 x2 x3 x4 x5 x7 s = some τ) (hC : (C_X3_valueOf_5 N xs d r (fun τ => r = (some (.int τ.1), (SH, τ.2)))) τ) : Rn N xs (d + 1) me58 199 [some (.ref 68), none, some (.int x2), some (.int x3), some (.int x4), some (.int x5), none, some (.int x7)] [] (SH, s) r := by
  unfold F_X3_valueOf_199 at hJ
  refine Rn_sq srt58 75 12 (pc' := 218) (ls' := [some (.ref 68), none, some (.int x2), some (.int (x3 + ci (-1))), some (.int x4), some (.int x5), none, some (.int x7)]) (st' := [(.int ((x3 + ci (-1)) - (ci 1))), (.ref 70), (.int x5), (.int ((x3 + ci (-1)) - (ci 1))), (.ref 70)]) (h1 := (SH, s)) rfl ?_
  obtain ⟨v20, h19, hJ⟩ := m_b1 hJ
  refine Rn_call srt58 87 rfl rfl rfl ⟨Nat.le_of_ble_eq_true rfl, Nat.le_of_ble_eq_true rfl, rfl, Nat.le_of_ble_eq_true rfl⟩ (k_X11_cell 70 (d) h19) (show Rn N xs (d + 1) me58 221 [some (.ref 68), none, some (.int x2), some (.int (x3 + ci (-1))), some (.int x4), some (.int x5), none, some (.int x7)] [(.int v20), (.int x5), (.int ((x3 + ci (-1)) - (ci 1))), (.ref 70)] (SH, s) r from ?_)
  refine Rn_sq srt58 88 1 (pc' := 223) (ls' := [some (.ref 68), none, some (.int x2), some (.int (x3 + ci (-1))), some (.int x4), some (.int x5), none, some (.int x7)]) (st' := [(.int x7), (.int v20), (.int x5), (.int ((x3 + ci (-1)) - (ci 1))), (.ref 70)]) (h1 := (SH, s)) rfl ?_
  obtain ⟨v22, h21, hJ⟩ := m_b1 hJ
  refine Rn_call srt58 89 rfl rfl rfl ⟨Nat.le_of_ble_eq_true rfl, Nat.le_of_ble_eq_true rfl, rfl, Nat.le_of_ble_eq_true rfl⟩ (k_X3_joined (d) h21) (show Rn N xs (d + 1) me58 226 [some (.ref 68), none, some (.int x2), some (.int (x3 + ci (-1))), some (.int x4), some (.int x5), none, some (.int x7)] [(.int v22), (.int ((x3 + ci (-1)) - (ci 1))), (.ref 70)] (SH, s) r from ?_)
  obtain ⟨s24, h23, hJ⟩ := m_b1 hJ
  refine Rn_call srt58 90 rfl rfl rfl ⟨Nat.le_of_ble_eq_true rfl, Nat.le_of_ble_eq_true rfl, rfl, Nat.le_of_ble_eq_true rfl⟩ (k_X11_put 70 (d) h23) (show Rn N xs (d + 1) me58 229 [some (.ref 68), none, some (.int x2), some (.int (x3 + ci (-1))), some (.int x4), some (.int x5), none, some (.int x7)] [] (SH, s24) r from ?_)
  exact Rn_weaken (a := [some (.ref 68), none, some (.int x2), some (.int (x3 + ci (-1))), some (.int x4), none, none, none]) (b := [some (.ref 68), none, some (.int x2), some (.int (x3 + ci (-1))), some (.int x4), some (.int x5), none, some (.int x7)]) (And.intro rfl (And.intro rfl (And.intro rfl (And.intro rfl trivial)))) rfl (k_X3_valueOf_229 d hJ hC)
def F_X3_valueOf_176 (x2 : Int32) (x3 : Int32) (x4 : Int32) (y1 : Int32) (y2 : Int32) (s : mG) : Option ((Int32 × Int32 × Int32 × mG) ⊕ (Int32 × mG)) :=
  b1 (F_X11_put 70 y1 y2 s) fun s30 =>
  F_X3_valueOf_229 x2 x3 x4 s30
set_option maxRecDepth 4000 in
theorem k_X3_valueOf_176 {N : Nat} {xs : Nat → Int32} (d : Nat) {r : Option Value × mH} {s : mG} {x2 : Int32} {x3 : Int32} {x4 : Int32} {y1 : Int32} {y2 : Int32} {τ : ((Int32 × Int32 × Int32 × mG) ⊕ (Int32 × mG))} (hJ : F_X3_valueOf_176 x2 x3 x4 y1 y2 s = some τ) (hC : (C_X3_valueOf_5 N xs d r (fun τ => r = (some (.int τ.1), (SH, τ.2)))) τ) : Rn N xs (d + 1) me58 176 [some (.ref 68), none, some (.int x2), some (.int x3), some (.int x4), none, none, none] [(.int y2), (.int y1), (.ref 70)] (SH, s) r := by
  unfold F_X3_valueOf_176 at hJ
  obtain ⟨s30, h29, hJ⟩ := m_b1 hJ
  refine Rn_call srt58 63 rfl rfl rfl ⟨Nat.le_of_ble_eq_true rfl, Nat.le_of_ble_eq_true rfl, rfl, Nat.le_of_ble_eq_true rfl⟩ (k_X11_put 70 (d) h29) (show Rn N xs (d + 1) me58 179 [some (.ref 68), none, some (.int x2), some (.int x3), some (.int x4), none, none, none] [] (SH, s30) r from ?_)
  refine Rn_sq srt58 64 1 (pc' := 229) (ls' := [some (.ref 68), none, some (.int x2), some (.int x3), some (.int x4), none, none, none]) (st' := []) (h1 := (SH, s30)) rfl ?_
  exact (k_X3_valueOf_229 d hJ hC)
def F_X3_valueOf_B5 (x2 : Int32) (x3 : Int32) (x4 : Int32) (s : mG) : Option ((Int32 × Int32 × Int32 × mG) ⊕ (Int32 × mG)) :=
  if x2 ≤ x4 then
    b1 (F_X11_cell 70 s (x3 - (ci 1))) fun v3 =>
    some (Sum.inr (v3, s))
  else
    b1 (F_X10_at 8 s x4 (ci 0)) fun v5 =>
    b1 (F_X10_at 8 s x4 (ci 0)) fun v7 =>
    b1 (F_X11_cell 70 s (x3 - (ci 1))) fun v9 =>
    if (v5 / (c16 10000)) = ci 0 then
      b1 (F_X11_put 70 x3 (rm v7 (c16 10000)) s) fun s12 =>
      F_X3_valueOf_229 x2 (x3 + ci 1) x4 s12
    else
    if (v5 / (c16 10000)) = ci 1 then
      b1 (F_X11_cell 69 s (rm v7 (c16 10000))) fun v15 =>
      b1 (F_X11_put 70 x3 v15 s) fun s17 =>
      F_X3_valueOf_229 x2 (x3 + ci 1) x4 s17
    else
    if (v5 / (c16 10000)) = ci 2 then
      F_X3_valueOf_199 x2 x3 x4 (v5 / (c16 10000)) v9 s
    else
    if (v5 / (c16 10000)) = ci 3 then
      F_X3_valueOf_199 x2 x3 x4 (v5 / (c16 10000)) v9 s
    else
    if (v5 / (c16 10000)) = ci 4 then
      F_X3_valueOf_199 x2 x3 x4 (v5 / (c16 10000)) v9 s
    else
    if (v5 / (c16 10000)) = ci 5 then
      if (rm v7 (c16 10000)) = 0 then
        F_X3_valueOf_176 x2 x3 x4 (x3 - (ci 1)) (ci 0) s
      else
        if (rm v7 (c16 10000)) = 0 then none else
        F_X3_valueOf_176 x2 x3 x4 (x3 - (ci 1)) (v9 / (rm v7 (c16 10000))) s
    else
    if (v5 / (c16 10000)) = ci 6 then
      F_X3_valueOf_199 x2 x3 x4 (v5 / (c16 10000)) v9 s
    else
    if (v5 / (c16 10000)) = ci 7 then
      F_X3_valueOf_199 x2 x3 x4 (v5 / (c16 10000)) v9 s
    else
    if (v5 / (c16 10000)) = ci 8 then
      F_X3_valueOf_199 x2 x3 x4 (v5 / (c16 10000)) v9 s
    else
    if (v5 / (c16 10000)) = ci 9 then
      b1 (F_X11_put 70 (x3 - (ci 1)) ((ci 1) - v9) s) fun s37 =>
      F_X3_valueOf_229 x2 x3 x4 s37
    else
    F_X3_valueOf_199 x2 x3 x4 (v5 / (c16 10000)) v9 s
set_option maxRecDepth 4000 in
theorem k_X3_valueOf_B5 {N : Nat} {xs : Nat → Int32} (d : Nat) {r : Option Value × mH} {s : mG} {x2 : Int32} {x3 : Int32} {x4 : Int32} {τ : ((Int32 × Int32 × Int32 × mG) ⊕ (Int32 × mG))} (hJ : F_X3_valueOf_B5 x2 x3 x4 s = some τ) (hC : (C_X3_valueOf_5 N xs d r (fun τ => r = (some (.int τ.1), (SH, τ.2)))) τ) : Rn N xs (d + 1) me58 5 [some (.ref 68), none, some (.int x2), some (.int x3), some (.int x4), none, none, none] [] (SH, s) r := by
  unfold F_X3_valueOf_B5 at hJ
  refine Rn_sq srt58 4 3 (pc' := (if x2 ≤ x4 then 235 else 11)) (ls' := [some (.ref 68), none, some (.int x2), some (.int x3), some (.int x4), none, none, none]) (st' := []) (h1 := (SH, s)) rfl (Rn_if (fun h1 => ?_) (fun h1 => ?_))
  · replace hJ := m_ifp h1 hJ
    refine Rn_sq srt58 93 5 (pc' := 242) (ls' := [some (.ref 68), none, some (.int x2), some (.int x3), some (.int x4), none, none, none]) (st' := [(.int (x3 - (ci 1))), (.ref 70)]) (h1 := (SH, s)) rfl ?_
    obtain ⟨v3, h2, hJ⟩ := m_b1 hJ
    refine Rn_call srt58 98 rfl rfl rfl ⟨Nat.le_of_ble_eq_true rfl, Nat.le_of_ble_eq_true rfl, rfl, Nat.le_of_ble_eq_true rfl⟩ (k_X11_cell 70 (d) h2) (show Rn N xs (d + 1) me58 245 [some (.ref 68), none, some (.int x2), some (.int x3), some (.int x4), none, none, none] [(.int v3)] (SH, s) r from ?_)
    rw [← Option.some.inj hJ] at hC
    have hC : r = (some (.int v3), (SH, s)) := hC
    subst hC
    exact Rn_ret srt58 99 rfl rfl rfl
  · replace hJ := m_ifn h1 hJ
    refine Rn_sq srt58 7 5 (pc' := 21) (ls' := [some (.ref 68), none, some (.int x2), some (.int x3), some (.int x4), none, none, none]) (st' := [(.int (ci 0)), (.int x4), (.ref 8)]) (h1 := (SH, s)) rfl ?_
    obtain ⟨v5, h4, hJ⟩ := m_b1 hJ
    refine Rn_call srt58 12 rfl rfl rfl ⟨Nat.le_of_ble_eq_true rfl, Nat.le_of_ble_eq_true rfl, rfl, Nat.le_of_ble_eq_true rfl⟩ (k_X10_at 8 (d) isT_8 h4) (show Rn N xs (d + 1) me58 24 [some (.ref 68), none, some (.int x2), some (.int x3), some (.int x4), none, none, none] [(.int v5)] (SH, s) r from ?_)
    refine Rn_sq srt58 13 1 (pc' := 27) (ls' := [some (.ref 68), none, some (.int x2), some (.int x3), some (.int x4), none, none, none]) (st' := [(.int (c16 10000)), (.int v5)]) (h1 := (SH, s)) rfl ?_
    refine Rn_ev srt58 14 rfl rfl rfl (op_idiv (by decide)) ?_
    refine Rn_sq srt58 15 6 (pc' := 40) (ls' := [some (.ref 68), none, some (.int x2), some (.int x3), some (.int x4), some (.int (v5 / (c16 10000))), none, none]) (st' := [(.int (ci 0)), (.int x4), (.ref 8)]) (h1 := (SH, s)) rfl ?_
    obtain ⟨v7, h6, hJ⟩ := m_b1 hJ
    refine Rn_call srt58 21 rfl rfl rfl ⟨Nat.le_of_ble_eq_true rfl, Nat.le_of_ble_eq_true rfl, rfl, Nat.le_of_ble_eq_true rfl⟩ (k_X10_at 8 (d) isT_8 h6) (show Rn N xs (d + 1) me58 43 [some (.ref 68), none, some (.int x2), some (.int x3), some (.int x4), some (.int (v5 / (c16 10000))), none, none] [(.int v7)] (SH, s) r from ?_)
    refine Rn_sq srt58 22 1 (pc' := 46) (ls' := [some (.ref 68), none, some (.int x2), some (.int x3), some (.int x4), some (.int (v5 / (c16 10000))), none, none]) (st' := [(.int (c16 10000)), (.int v7)]) (h1 := (SH, s)) rfl ?_
    refine Rn_ev srt58 23 rfl rfl rfl (op_irem (by decide)) ?_
    refine Rn_sq srt58 24 6 (pc' := 56) (ls' := [some (.ref 68), none, some (.int x2), some (.int x3), some (.int x4), some (.int (v5 / (c16 10000))), some (.int (rm v7 (c16 10000))), none]) (st' := [(.int (x3 - (ci 1))), (.ref 70)]) (h1 := (SH, s)) rfl ?_
    obtain ⟨v9, h8, hJ⟩ := m_b1 hJ
    refine Rn_call srt58 30 rfl rfl rfl ⟨Nat.le_of_ble_eq_true rfl, Nat.le_of_ble_eq_true rfl, rfl, Nat.le_of_ble_eq_true rfl⟩ (k_X11_cell 70 (d) h8) (show Rn N xs (d + 1) me58 59 [some (.ref 68), none, some (.int x2), some (.int x3), some (.int x4), some (.int (v5 / (c16 10000))), some (.int (rm v7 (c16 10000))), none] [(.int v9)] (SH, s) r from ?_)
    refine Rn_sq srt58 31 2 (pc' := 63) (ls' := [some (.ref 68), none, some (.int x2), some (.int x3), some (.int x4), some (.int (v5 / (c16 10000))), some (.int (rm v7 (c16 10000))), some (.int v9)]) (st' := [(.int (v5 / (c16 10000)))]) (h1 := (SH, s)) rfl ?_
    by_cases h10 : (v5 / (c16 10000)) = ci 0
    · replace hJ := m_ifp h10 hJ
      refine Rn_ev srt58 33 rfl rfl rfl (op_sw h10 (show _ = some (116, _) from rfl)) ?_
      refine Rn_sq srt58 34 4 (pc' := 123) (ls' := [some (.ref 68), none, some (.int x2), some (.int x3), some (.int x4), some (.int (v5 / (c16 10000))), some (.int (rm v7 (c16 10000))), some (.int v9)]) (st' := [(.int (rm v7 (c16 10000))), (.int x3), (.ref 70)]) (h1 := (SH, s)) rfl ?_
      obtain ⟨s12, h11, hJ⟩ := m_b1 hJ
      refine Rn_call srt58 38 rfl rfl rfl ⟨Nat.le_of_ble_eq_true rfl, Nat.le_of_ble_eq_true rfl, rfl, Nat.le_of_ble_eq_true rfl⟩ (k_X11_put 70 (d) h11) (show Rn N xs (d + 1) me58 126 [some (.ref 68), none, some (.int x2), some (.int x3), some (.int x4), some (.int (v5 / (c16 10000))), some (.int (rm v7 (c16 10000))), some (.int v9)] [] (SH, s12) r from ?_)
      refine Rn_sq srt58 39 2 (pc' := 229) (ls' := [some (.ref 68), none, some (.int x2), some (.int (x3 + ci 1)), some (.int x4), some (.int (v5 / (c16 10000))), some (.int (rm v7 (c16 10000))), some (.int v9)]) (st' := []) (h1 := (SH, s12)) rfl ?_
      exact Rn_weaken (a := [some (.ref 68), none, some (.int x2), some (.int (x3 + ci 1)), some (.int x4), none, none, none]) (b := [some (.ref 68), none, some (.int x2), some (.int (x3 + ci 1)), some (.int x4), some (.int (v5 / (c16 10000))), some (.int (rm v7 (c16 10000))), some (.int v9)]) (And.intro rfl (And.intro rfl (And.intro rfl (And.intro rfl trivial)))) rfl (k_X3_valueOf_229 d hJ hC)
    replace hJ := m_ifn h10 hJ
    by_cases h13 : (v5 / (c16 10000)) = ci 1
    · replace hJ := m_ifp h13 hJ
      refine Rn_ev srt58 33 rfl rfl rfl (op_sw h13 (show _ = some (132, _) from rfl)) ?_
      refine Rn_sq srt58 41 6 (pc' := 143) (ls' := [some (.ref 68), none, some (.int x2), some (.int x3), some (.int x4), some (.int (v5 / (c16 10000))), some (.int (rm v7 (c16 10000))), some (.int v9)]) (st' := [(.int (rm v7 (c16 10000))), (.ref 69), (.int x3), (.ref 70)]) (h1 := (SH, s)) rfl ?_
      obtain ⟨v15, h14, hJ⟩ := m_b1 hJ
      refine Rn_call srt58 47 rfl rfl rfl ⟨Nat.le_of_ble_eq_true rfl, Nat.le_of_ble_eq_true rfl, rfl, Nat.le_of_ble_eq_true rfl⟩ (k_X11_cell 69 (d) h14) (show Rn N xs (d + 1) me58 146 [some (.ref 68), none, some (.int x2), some (.int x3), some (.int x4), some (.int (v5 / (c16 10000))), some (.int (rm v7 (c16 10000))), some (.int v9)] [(.int v15), (.int x3), (.ref 70)] (SH, s) r from ?_)
      obtain ⟨s17, h16, hJ⟩ := m_b1 hJ
      refine Rn_call srt58 48 rfl rfl rfl ⟨Nat.le_of_ble_eq_true rfl, Nat.le_of_ble_eq_true rfl, rfl, Nat.le_of_ble_eq_true rfl⟩ (k_X11_put 70 (d) h16) (show Rn N xs (d + 1) me58 149 [some (.ref 68), none, some (.int x2), some (.int x3), some (.int x4), some (.int (v5 / (c16 10000))), some (.int (rm v7 (c16 10000))), some (.int v9)] [] (SH, s17) r from ?_)
      refine Rn_sq srt58 49 2 (pc' := 229) (ls' := [some (.ref 68), none, some (.int x2), some (.int (x3 + ci 1)), some (.int x4), some (.int (v5 / (c16 10000))), some (.int (rm v7 (c16 10000))), some (.int v9)]) (st' := []) (h1 := (SH, s17)) rfl ?_
      exact Rn_weaken (a := [some (.ref 68), none, some (.int x2), some (.int (x3 + ci 1)), some (.int x4), none, none, none]) (b := [some (.ref 68), none, some (.int x2), some (.int (x3 + ci 1)), some (.int x4), some (.int (v5 / (c16 10000))), some (.int (rm v7 (c16 10000))), some (.int v9)]) (And.intro rfl (And.intro rfl (And.intro rfl (And.intro rfl trivial)))) rfl (k_X3_valueOf_229 d hJ hC)
    replace hJ := m_ifn h13 hJ
    by_cases h18 : (v5 / (c16 10000)) = ci 2
    · replace hJ := m_ifp h18 hJ
      refine Rn_ev srt58 33 rfl rfl rfl (op_sw h18 (show _ = some (199, _) from rfl)) ?_
      exact Rn_weaken (a := [some (.ref 68), none, some (.int x2), some (.int x3), some (.int x4), some (.int (v5 / (c16 10000))), none, some (.int v9)]) (b := [some (.ref 68), none, some (.int x2), some (.int x3), some (.int x4), some (.int (v5 / (c16 10000))), some (.int (rm v7 (c16 10000))), some (.int v9)]) (And.intro rfl (And.intro rfl (And.intro rfl (And.intro rfl (And.intro rfl (And.intro rfl trivial)))))) rfl (k_X3_valueOf_199 d hJ hC)
    replace hJ := m_ifn h18 hJ
    by_cases h25 : (v5 / (c16 10000)) = ci 3
    · replace hJ := m_ifp h25 hJ
      refine Rn_ev srt58 33 rfl rfl rfl (op_sw h25 (show _ = some (199, _) from rfl)) ?_
      exact Rn_weaken (a := [some (.ref 68), none, some (.int x2), some (.int x3), some (.int x4), some (.int (v5 / (c16 10000))), none, some (.int v9)]) (b := [some (.ref 68), none, some (.int x2), some (.int x3), some (.int x4), some (.int (v5 / (c16 10000))), some (.int (rm v7 (c16 10000))), some (.int v9)]) (And.intro rfl (And.intro rfl (And.intro rfl (And.intro rfl (And.intro rfl (And.intro rfl trivial)))))) rfl (k_X3_valueOf_199 d hJ hC)
    replace hJ := m_ifn h25 hJ
    by_cases h26 : (v5 / (c16 10000)) = ci 4
    · replace hJ := m_ifp h26 hJ
      refine Rn_ev srt58 33 rfl rfl rfl (op_sw h26 (show _ = some (199, _) from rfl)) ?_
      exact Rn_weaken (a := [some (.ref 68), none, some (.int x2), some (.int x3), some (.int x4), some (.int (v5 / (c16 10000))), none, some (.int v9)]) (b := [some (.ref 68), none, some (.int x2), some (.int x3), some (.int x4), some (.int (v5 / (c16 10000))), some (.int (rm v7 (c16 10000))), some (.int v9)]) (And.intro rfl (And.intro rfl (And.intro rfl (And.intro rfl (And.intro rfl (And.intro rfl trivial)))))) rfl (k_X3_valueOf_199 d hJ hC)
    replace hJ := m_ifn h26 hJ
    by_cases h27 : (v5 / (c16 10000)) = ci 5
    · replace hJ := m_ifp h27 hJ
      refine Rn_ev srt58 33 rfl rfl rfl (op_sw h27 (show _ = some (155, _) from rfl)) ?_
      refine Rn_sq srt58 51 7 (pc' := (if (rm v7 (c16 10000)) = 0 then 167 else 171)) (ls' := [some (.ref 68), none, some (.int x2), some (.int x3), some (.int x4), some (.int (v5 / (c16 10000))), some (.int (rm v7 (c16 10000))), some (.int v9)]) (st' := [(.int (x3 - (ci 1))), (.ref 70)]) (h1 := (SH, s)) rfl (Rn_if (fun h28 => ?_) (fun h28 => ?_))
      · replace hJ := m_ifp h28 hJ
        refine Rn_sq srt58 58 2 (pc' := 176) (ls' := [some (.ref 68), none, some (.int x2), some (.int x3), some (.int x4), some (.int (v5 / (c16 10000))), some (.int (rm v7 (c16 10000))), some (.int v9)]) (st' := [(.int (ci 0)), (.int (x3 - (ci 1))), (.ref 70)]) (h1 := (SH, s)) rfl ?_
        exact Rn_weaken (a := [some (.ref 68), none, some (.int x2), some (.int x3), some (.int x4), none, none, none]) (b := [some (.ref 68), none, some (.int x2), some (.int x3), some (.int x4), some (.int (v5 / (c16 10000))), some (.int (rm v7 (c16 10000))), some (.int v9)]) (And.intro rfl (And.intro rfl (And.intro rfl (And.intro rfl trivial)))) rfl (k_X3_valueOf_176 d hJ hC)
      · replace hJ := m_ifn h28 hJ
        refine Rn_sq srt58 60 2 (pc' := 175) (ls' := [some (.ref 68), none, some (.int x2), some (.int x3), some (.int x4), some (.int (v5 / (c16 10000))), some (.int (rm v7 (c16 10000))), some (.int v9)]) (st' := [(.int (rm v7 (c16 10000))), (.int v9), (.int (x3 - (ci 1))), (.ref 70)]) (h1 := (SH, s)) rfl ?_
        obtain ⟨h31, hJ⟩ := m_gn hJ
        refine Rn_ev srt58 62 rfl rfl rfl (op_idiv h31) ?_
        exact Rn_weaken (a := [some (.ref 68), none, some (.int x2), some (.int x3), some (.int x4), none, none, none]) (b := [some (.ref 68), none, some (.int x2), some (.int x3), some (.int x4), some (.int (v5 / (c16 10000))), some (.int (rm v7 (c16 10000))), some (.int v9)]) (And.intro rfl (And.intro rfl (And.intro rfl (And.intro rfl trivial)))) rfl (k_X3_valueOf_176 d hJ hC)
    replace hJ := m_ifn h27 hJ
    by_cases h32 : (v5 / (c16 10000)) = ci 6
    · replace hJ := m_ifp h32 hJ
      refine Rn_ev srt58 33 rfl rfl rfl (op_sw h32 (show _ = some (199, _) from rfl)) ?_
      exact Rn_weaken (a := [some (.ref 68), none, some (.int x2), some (.int x3), some (.int x4), some (.int (v5 / (c16 10000))), none, some (.int v9)]) (b := [some (.ref 68), none, some (.int x2), some (.int x3), some (.int x4), some (.int (v5 / (c16 10000))), some (.int (rm v7 (c16 10000))), some (.int v9)]) (And.intro rfl (And.intro rfl (And.intro rfl (And.intro rfl (And.intro rfl (And.intro rfl trivial)))))) rfl (k_X3_valueOf_199 d hJ hC)
    replace hJ := m_ifn h32 hJ
    by_cases h33 : (v5 / (c16 10000)) = ci 7
    · replace hJ := m_ifp h33 hJ
      refine Rn_ev srt58 33 rfl rfl rfl (op_sw h33 (show _ = some (199, _) from rfl)) ?_
      exact Rn_weaken (a := [some (.ref 68), none, some (.int x2), some (.int x3), some (.int x4), some (.int (v5 / (c16 10000))), none, some (.int v9)]) (b := [some (.ref 68), none, some (.int x2), some (.int x3), some (.int x4), some (.int (v5 / (c16 10000))), some (.int (rm v7 (c16 10000))), some (.int v9)]) (And.intro rfl (And.intro rfl (And.intro rfl (And.intro rfl (And.intro rfl (And.intro rfl trivial)))))) rfl (k_X3_valueOf_199 d hJ hC)
    replace hJ := m_ifn h33 hJ
    by_cases h34 : (v5 / (c16 10000)) = ci 8
    · replace hJ := m_ifp h34 hJ
      refine Rn_ev srt58 33 rfl rfl rfl (op_sw h34 (show _ = some (199, _) from rfl)) ?_
      exact Rn_weaken (a := [some (.ref 68), none, some (.int x2), some (.int x3), some (.int x4), some (.int (v5 / (c16 10000))), none, some (.int v9)]) (b := [some (.ref 68), none, some (.int x2), some (.int x3), some (.int x4), some (.int (v5 / (c16 10000))), some (.int (rm v7 (c16 10000))), some (.int v9)]) (And.intro rfl (And.intro rfl (And.intro rfl (And.intro rfl (And.intro rfl (And.intro rfl trivial)))))) rfl (k_X3_valueOf_199 d hJ hC)
    replace hJ := m_ifn h34 hJ
    by_cases h35 : (v5 / (c16 10000)) = ci 9
    · replace hJ := m_ifp h35 hJ
      refine Rn_ev srt58 33 rfl rfl rfl (op_sw h35 (show _ = some (182, _) from rfl)) ?_
      refine Rn_sq srt58 65 8 (pc' := 193) (ls' := [some (.ref 68), none, some (.int x2), some (.int x3), some (.int x4), some (.int (v5 / (c16 10000))), some (.int (rm v7 (c16 10000))), some (.int v9)]) (st' := [(.int ((ci 1) - v9)), (.int (x3 - (ci 1))), (.ref 70)]) (h1 := (SH, s)) rfl ?_
      obtain ⟨s37, h36, hJ⟩ := m_b1 hJ
      refine Rn_call srt58 73 rfl rfl rfl ⟨Nat.le_of_ble_eq_true rfl, Nat.le_of_ble_eq_true rfl, rfl, Nat.le_of_ble_eq_true rfl⟩ (k_X11_put 70 (d) h36) (show Rn N xs (d + 1) me58 196 [some (.ref 68), none, some (.int x2), some (.int x3), some (.int x4), some (.int (v5 / (c16 10000))), some (.int (rm v7 (c16 10000))), some (.int v9)] [] (SH, s37) r from ?_)
      refine Rn_sq srt58 74 1 (pc' := 229) (ls' := [some (.ref 68), none, some (.int x2), some (.int x3), some (.int x4), some (.int (v5 / (c16 10000))), some (.int (rm v7 (c16 10000))), some (.int v9)]) (st' := []) (h1 := (SH, s37)) rfl ?_
      exact Rn_weaken (a := [some (.ref 68), none, some (.int x2), some (.int x3), some (.int x4), none, none, none]) (b := [some (.ref 68), none, some (.int x2), some (.int x3), some (.int x4), some (.int (v5 / (c16 10000))), some (.int (rm v7 (c16 10000))), some (.int v9)]) (And.intro rfl (And.intro rfl (And.intro rfl (And.intro rfl trivial)))) rfl (k_X3_valueOf_229 d hJ hC)
    replace hJ := m_ifn h35 hJ
    refine Rn_ev srt58 33 rfl rfl rfl (op_swd (tg := 199) (sw_out (by decide) (by decide) (by intro v hv1 hv2; rcases (show v = 0 ∨ v = 1 ∨ v = 2 ∨ v = 3 ∨ v = 4 ∨ v = 5 ∨ v = 6 ∨ v = 7 ∨ v = 8 ∨ v = 9 by omega) with rfl | rfl | rfl | rfl | rfl | rfl | rfl | rfl | rfl | rfl <;> assumption)) rfl) ?_
    exact Rn_weaken (a := [some (.ref 68), none, some (.int x2), some (.int x3), some (.int x4), some (.int (v5 / (c16 10000))), none, some (.int v9)]) (b := [some (.ref 68), none, some (.int x2), some (.int x3), some (.int x4), some (.int (v5 / (c16 10000))), some (.int (rm v7 (c16 10000))), some (.int v9)]) (And.intro rfl (And.intro rfl (And.intro rfl (And.intro rfl (And.intro rfl (And.intro rfl trivial)))))) rfl (k_X3_valueOf_199 d hJ hC)
def F_X3_valueOf_L5 (x2 : Int32) (x3 : Int32) (x4 : Int32) (s : mG) : Option (Int32 × mG) := whl (fun (v : (Int32 × Int32 × Int32 × mG)) => F_X3_valueOf_B5 v.1 v.2.1 v.2.2.1 v.2.2.2) (x2, x3, x4, s)
theorem k_X3_valueOf_L5 {N : Nat} {xs : Nat → Int32} (d : Nat) {r : Option Value × mH} {s : mG} {x2 : Int32} {x3 : Int32} {x4 : Int32} {τ : (Int32 × mG)} (hJ : F_X3_valueOf_L5 x2 x3 x4 s = some τ) (hC : (fun τ => r = (some (.int τ.1), (SH, τ.2))) τ) : Rn N xs (d + 1) me58 5 [some (.ref 68), none, some (.int x2), some (.int x3), some (.int x4), none, none, none] [] (SH, s) r :=
  whl_link (P := fun (v : (Int32 × Int32 × Int32 × mG)) => Rn N xs (d + 1) me58 5 [some (.ref 68), none, some (.int v.1), some (.int v.2.1), some (.int v.2.2.1), none, none, none] [] (SH, v.2.2.2) r) (C := (C_X3_valueOf_5 N xs d r (fun τ => r = (some (.int τ.1), (SH, τ.2))))) (fun v τ h1 h2 => k_X3_valueOf_B5 d h1 h2) (fun _ h => h) (fun _ h => h) _ _ hJ hC
def F_X3_valueOf (a1 : Int32) (a2 : Int32) (s : mG) : Option (Int32 × mG) :=
  F_X3_valueOf_L5 a2 (ci 0) a1 s
set_option maxRecDepth 4000 in
theorem k_X3_valueOf_r {N : Nat} {xs : Nat → Int32} (d : Nat) {r : Option Value × mH} {s : mG} {a1 : Int32} {a2 : Int32} {τ : (Int32 × mG)} (hJ : F_X3_valueOf a1 a2 s = some τ) (hC : (fun τ => r = (some (.int τ.1), (SH, τ.2))) τ) : Rn N xs (d + 1) me58 0 [some (.ref 68), some (.int a1), some (.int a2), none, none, none, none, none] [] (SH, s) r := by
  unfold F_X3_valueOf at hJ
  refine Rn_sq srt58 0 4 (pc' := 5) (ls' := [some (.ref 68), some (.int a1), some (.int a2), some (.int (ci 0)), some (.int a1), none, none, none]) (st' := []) (h1 := (SH, s)) rfl ?_
  exact Rn_weaken (a := [some (.ref 68), none, some (.int a2), some (.int (ci 0)), some (.int a1), none, none, none]) (b := [some (.ref 68), some (.int a1), some (.int a2), some (.int (ci 0)), some (.int a1), none, none, none]) (And.intro rfl (And.intro rfl (And.intro rfl (And.intro rfl trivial)))) rfl (k_X3_valueOf_L5 d hJ hC)
theorem k_X3_valueOf {N : Nat} {xs : Nat → Int32} (d : Nat) {s : mG} {a1 : Int32} {a2 : Int32} {τ : (Int32 × mG)} (hJ : F_X3_valueOf a1 a2 s = some τ) : Rn N xs (d + 1) me58 0 [some (.ref 68), some (.int a1), some (.int a2), none, none, none, none, none] [] (SH, s) (some (.int τ.1), (SH, τ.2)) := k_X3_valueOf_r d hJ rfl
/-! IsHeIn$Belief.sureOf(I)I -/
theorem srt1 : m_srt mc1 = true := by decide +kernel
def F_X0_sureOf (a1 : Int32) (s : mG) : Option (Int32 × mG) :=
  b1 (F_X0_glanceAt a1 s) fun s2 =>
  b2 (F_X0_sureByGlance a1 s2) fun v5 s4 =>
  some (v5, s4)
set_option maxRecDepth 4000 in
theorem k_X0_sureOf_r {N : Nat} {xs : Nat → Int32} (d : Nat) {r : Option Value × mH} {s : mG} {a1 : Int32} {τ : (Int32 × mG)} (hJ : F_X0_sureOf a1 s = some τ) (hC : (fun τ => r = (some (.int τ.1), (SH, τ.2))) τ) : Rn N xs (d + 4) me1 0 [some (.ref 73), some (.int a1)] [] (SH, s) r := by
  unfold F_X0_sureOf at hJ
  refine Rn_sq srt1 0 2 (pc' := 2) (ls' := [some (.ref 73), some (.int a1)]) (st' := [(.int a1), (.ref 73)]) (h1 := (SH, s)) rfl ?_
  obtain ⟨s2, h1, hJ⟩ := m_b1 hJ
  refine Rn_call srt1 2 rfl rfl rfl ⟨Nat.le_of_ble_eq_true rfl, Nat.le_of_ble_eq_true rfl, rfl, Nat.le_of_ble_eq_true rfl⟩ (k_X0_glanceAt (d + 2) h1) (show Rn N xs (d + 4) me1 5 [some (.ref 73), some (.int a1)] [] (SH, s2) r from ?_)
  refine Rn_sq srt1 3 2 (pc' := 7) (ls' := [some (.ref 73), some (.int a1)]) (st' := [(.int a1), (.ref 73)]) (h1 := (SH, s2)) rfl ?_
  obtain ⟨v5, s4, h3, hJ⟩ := m_b2 hJ
  refine Rn_call srt1 5 rfl rfl rfl ⟨Nat.le_of_ble_eq_true rfl, Nat.le_of_ble_eq_true rfl, rfl, Nat.le_of_ble_eq_true rfl⟩ (k_X0_sureByGlance (d) h3) (show Rn N xs (d + 4) me1 10 [some (.ref 73), some (.int a1)] [(.int v5)] (SH, s4) r from ?_)
  rw [← Option.some.inj hJ] at hC
  have hC : r = (some (.int v5), (SH, s4)) := hC
  subst hC
  exact Rn_ret srt1 6 rfl rfl rfl
theorem k_X0_sureOf {N : Nat} {xs : Nat → Int32} (d : Nat) {s : mG} {a1 : Int32} {τ : (Int32 × mG)} (hJ : F_X0_sureOf a1 s = some τ) : Rn N xs (d + 4) me1 0 [some (.ref 73), some (.int a1)] [] (SH, s) (some (.int τ.1), (SH, τ.2)) := k_X0_sureOf_r d hJ rfl
/-! IsHeIn$Belief.isBestSaidIn(JII)Z -/
theorem srt10 : m_srt mc10 = true := by decide +kernel
def F_X0_isBestSaidIn (s : mG) (a1 : Int64) (a2 : Int32) (a3 : Int32) : Option (Int32) :=
  if 0 < (lg_cmp (((cl 1000000) - a1) * a2.toInt64) (a1 * a3.toInt64)) then
    some (ci 0)
  else
    some (ci 1)
set_option maxRecDepth 4000 in
theorem k_X0_isBestSaidIn_r {N : Nat} {xs : Nat → Int32} (d : Nat) {r : Option Value × mH} {s : mG} {a1 : Int64} {a2 : Int32} {a3 : Int32} {τ : (Int32)} (hJ : F_X0_isBestSaidIn s a1 a2 a3 = some τ) (hC : (fun τ => r = (some (.int τ), (SH, s))) τ) : Rn N xs (d + 0) me10 0 [some (.long a1), none, some (.int a2), some (.int a3)] [] (SH, s) r := by
  unfold F_X0_isBestSaidIn at hJ
  refine Rn_sq srt10 0 12 (pc' := (if 0 < (lg_cmp (((cl 1000000) - a1) * a2.toInt64) (a1 * a3.toInt64)) then 20 else 16)) (ls' := [some (.long a1), none, some (.int a2), some (.int a3)]) (st' := []) (h1 := (SH, s)) rfl (Rn_if (fun h1 => ?_) (fun h1 => ?_))
  · replace hJ := m_ifp h1 hJ
    refine Rn_sq srt10 14 1 (pc' := 21) (ls' := [some (.long a1), none, some (.int a2), some (.int a3)]) (st' := [(.int (ci 0))]) (h1 := (SH, s)) rfl ?_
    rw [← Option.some.inj hJ] at hC
    have hC : r = (some (.int (ci 0)), (SH, s)) := hC
    subst hC
    exact Rn_ret srt10 15 rfl rfl (m_ret_b rfl (by decide))
  · replace hJ := m_ifn h1 hJ
    refine Rn_sq srt10 12 2 (pc' := 21) (ls' := [some (.long a1), none, some (.int a2), some (.int a3)]) (st' := [(.int (ci 1))]) (h1 := (SH, s)) rfl ?_
    rw [← Option.some.inj hJ] at hC
    have hC : r = (some (.int (ci 1)), (SH, s)) := hC
    subst hC
    exact Rn_ret srt10 15 rfl rfl (m_ret_b rfl (by decide))
theorem k_X0_isBestSaidIn {N : Nat} {xs : Nat → Int32} (d : Nat) {s : mG} {a1 : Int64} {a2 : Int32} {a3 : Int32} {τ : (Int32)} (hJ : F_X0_isBestSaidIn s a1 a2 a3 = some τ) : Rn N xs (d + 0) me10 0 [some (.long a1), none, some (.int a2), some (.int a3)] [] (SH, s) (some (.int τ), (SH, s)) := k_X0_isBestSaidIn_r d hJ rfl
/-! IsHeIn$Belief.saysIn(III)Z -/
theorem srt9 : m_srt mc9 = true := by decide +kernel
def F_X0_saysIn (a1 : Int32) (a2 : Int32) (a3 : Int32) (s : mG) : Option (Int32 × mG) :=
  b2 (F_X0_sureOf a1 s) fun v3 s2 =>
  b1 (F_X0_isBestSaidIn s2 v3.toInt64 a2 a3) fun v5 =>
  if v5 = 0 ∨ v5 = 1 then
    some (v5, s2)
  else none
set_option maxRecDepth 4000 in
theorem k_X0_saysIn_r {N : Nat} {xs : Nat → Int32} (d : Nat) {r : Option Value × mH} {s : mG} {a1 : Int32} {a2 : Int32} {a3 : Int32} {τ : (Int32 × mG)} (hJ : F_X0_saysIn a1 a2 a3 s = some τ) (hC : (fun τ => r = (some (.int τ.1), (SH, τ.2))) τ) : Rn N xs (d + 5) me9 0 [some (.ref 73), some (.int a1), some (.int a2), some (.int a3)] [] (SH, s) r := by
  unfold F_X0_saysIn at hJ
  refine Rn_sq srt9 0 2 (pc' := 2) (ls' := [some (.ref 73), some (.int a1), some (.int a2), some (.int a3)]) (st' := [(.int a1), (.ref 73)]) (h1 := (SH, s)) rfl ?_
  obtain ⟨v3, s2, h1, hJ⟩ := m_b2 hJ
  refine Rn_call srt9 2 rfl rfl rfl ⟨Nat.le_of_ble_eq_true rfl, Nat.le_of_ble_eq_true rfl, rfl, Nat.le_of_ble_eq_true rfl⟩ (k_X0_sureOf (d) h1) (show Rn N xs (d + 5) me9 5 [some (.ref 73), some (.int a1), some (.int a2), some (.int a3)] [(.int v3)] (SH, s2) r from ?_)
  refine Rn_sq srt9 3 3 (pc' := 8) (ls' := [some (.ref 73), some (.int a1), some (.int a2), some (.int a3)]) (st' := [(.int a3), (.int a2), (.long v3.toInt64)]) (h1 := (SH, s2)) rfl ?_
  obtain ⟨v5, h4, hJ⟩ := m_b1 hJ
  refine Rn_call srt9 6 rfl rfl rfl ⟨Nat.le_of_ble_eq_true rfl, Nat.le_of_ble_eq_true rfl, rfl, Nat.le_of_ble_eq_true rfl⟩ (k_X0_isBestSaidIn (d + 4) h4) (show Rn N xs (d + 5) me9 11 [some (.ref 73), some (.int a1), some (.int a2), some (.int a3)] [(.int v5)] (SH, s2) r from ?_)
  obtain ⟨h6, hJ⟩ := m_gp hJ
  rw [← Option.some.inj hJ] at hC
  have hC : r = (some (.int v5), (SH, s2)) := hC
  subst hC
  exact Rn_ret srt9 7 rfl rfl (m_ret_b rfl h6)
theorem k_X0_saysIn {N : Nat} {xs : Nat → Int32} (d : Nat) {s : mG} {a1 : Int32} {a2 : Int32} {a3 : Int32} {τ : (Int32 × mG)} (hJ : F_X0_saysIn a1 a2 a3 s = some τ) : Rn N xs (d + 5) me9 0 [some (.ref 73), some (.int a1), some (.int a2), some (.int a3)] [] (SH, s) (some (.int τ.1), (SH, τ.2)) := k_X0_saysIn_r d hJ rfl
/-! IsHeIn$Table.put(III)V -/
theorem srt134 : m_srt mc134 = true := by decide +kernel
def F_X10_put_39 (t : Nat) (x3 : Int32) (x4 : Int32) (y0 : Int32) (s : mG) : Option (mG) :=
  if y0 = 0 then
    some s
  else
    if x4 < 0 then
      some s
    else
      if (cn (m_alen (t + 1))) ≤ x4 then
        some s
      else
        if x4 < 0 ∨ m_alen (t + 1) ≤ x4.toNatClampNeg then none else
        let s7 : mG := (mu s.1 (t + 1) x4.toNatClampNeg x3, s.2)
        some s7
set_option maxRecDepth 4000 in
theorem k_X10_put_39 {N : Nat} {xs : Nat → Int32} (t : Nat) (d : Nat) (h_t : isT t) {r : Option Value × mH} {s : mG} {x3 : Int32} {x4 : Int32} {y0 : Int32} {τ : (mG)} (hJ : F_X10_put_39 t x3 x4 y0 s = some τ) (hC : (fun τ => r = (none, (SH, τ))) τ) : Rn N xs (d + 0) me134 39 [some (.ref t), none, none, some (.int x3), some (.int x4), none] [(.int y0)] (SH, s) r := by
  unfold F_X10_put_39 at hJ
  refine Rn_sq srt134 22 3 (pc' := (if y0 = 0 then 69 else 46)) (ls' := [some (.ref t), none, none, some (.int x3), some (.int x4), some (.int y0)]) (st' := []) (h1 := (SH, s)) rfl (Rn_if (fun h3 => ?_) (fun h3 => ?_))
  · replace hJ := m_ifp h3 hJ
    rw [← Option.some.inj hJ] at hC
    have hC : r = (none, (SH, s)) := hC
    subst hC
    exact Rn_ret srt134 37 rfl rfl rfl
  · replace hJ := m_ifn h3 hJ
    refine Rn_sq srt134 25 2 (pc' := (if x4 < 0 then 69 else 51)) (ls' := [some (.ref t), none, none, some (.int x3), some (.int x4), some (.int y0)]) (st' := []) (h1 := (SH, s)) rfl (Rn_if (fun h4 => ?_) (fun h4 => ?_))
    · replace hJ := m_ifp h4 hJ
      rw [← Option.some.inj hJ] at hC
      have hC : r = (none, (SH, s)) := hC
      subst hC
      exact Rn_ret srt134 37 rfl rfl rfl
    · replace hJ := m_ifn h4 hJ
      refine Rn_sq srt134 27 2 (pc' := 54) (ls' := [some (.ref t), none, none, some (.int x3), some (.int x4), some (.int y0)]) (st' := [(.ref t), (.int x4)]) (h1 := (SH, s)) rfl ?_
      refine Rn_ev srt134 29 rfl rfl rfl (op_gfT2 h_t) ?_
      refine Rn_ev srt134 30 rfl rfl rfl (op_alT h_t) ?_
      refine Rn_sq srt134 31 1 (pc' := (if (cn (m_alen (t + 1))) ≤ x4 then 69 else 61)) (ls' := [some (.ref t), none, none, some (.int x3), some (.int x4), some (.int y0)]) (st' := []) (h1 := (SH, s)) rfl (Rn_if (fun h5 => ?_) (fun h5 => ?_))
      · replace hJ := m_ifp h5 hJ
        rw [← Option.some.inj hJ] at hC
        have hC : r = (none, (SH, s)) := hC
        subst hC
        exact Rn_ret srt134 37 rfl rfl rfl
      · replace hJ := m_ifn h5 hJ
        refine Rn_sq srt134 32 1 (pc' := 62) (ls' := [some (.ref t), none, none, some (.int x3), some (.int x4), some (.int y0)]) (st' := [(.ref t)]) (h1 := (SH, s)) rfl ?_
        refine Rn_ev srt134 33 rfl rfl rfl (op_gfT2 h_t) ?_
        refine Rn_sq srt134 34 2 (pc' := 68) (ls' := [some (.ref t), none, none, some (.int x3), some (.int x4), some (.int y0)]) (st' := [(.int x3), (.int x4), (.ref (t + 1))]) (h1 := (SH, s)) rfl ?_
        obtain ⟨h6, hJ⟩ := m_gn hJ
        extract_lets s7 at hJ
        refine Rn_ev srt134 36 rfl rfl rfl (op_ias h_t.2 h6 (k := x4.toNatClampNeg) rfl) ?_
        rw [← Option.some.inj hJ] at hC
        have hC : r = (none, (SH, s7)) := hC
        subst hC
        exact Rn_ret srt134 37 rfl rfl rfl
def F_X10_put_38 (t : Nat) (x3 : Int32) (x4 : Int32) (s : mG) : Option (mG) :=
  F_X10_put_39 t x3 x4 (ci 0) s
set_option maxRecDepth 4000 in
theorem k_X10_put_38 {N : Nat} {xs : Nat → Int32} (t : Nat) (d : Nat) (h_t : isT t) {r : Option Value × mH} {s : mG} {x3 : Int32} {x4 : Int32} {τ : (mG)} (hJ : F_X10_put_38 t x3 x4 s = some τ) (hC : (fun τ => r = (none, (SH, τ))) τ) : Rn N xs (d + 0) me134 38 [some (.ref t), none, none, some (.int x3), some (.int x4), none] [] (SH, s) r := by
  unfold F_X10_put_38 at hJ
  refine Rn_sq srt134 21 1 (pc' := 39) (ls' := [some (.ref t), none, none, some (.int x3), some (.int x4), none]) (st' := [(.int (ci 0))]) (h1 := (SH, s)) rfl ?_
  exact (k_X10_put_39 t d h_t hJ hC)
def F_X10_put (t : Nat) (a1 : Int32) (a2 : Int32) (a3 : Int32) (s : mG) : Option (mG) :=
  let v1 : Int32 := ((a1 * (s.1 t 1)) + a2)
  if a1 < 0 then
    F_X10_put_38 t a3 v1 s
  else
    if (s.1 t 3) ≤ a1 then
      F_X10_put_38 t a3 v1 s
    else
      if a2 < 0 then
        F_X10_put_38 t a3 v1 s
      else
        if (s.1 t 1) ≤ a2 then
          F_X10_put_38 t a3 v1 s
        else
          F_X10_put_39 t a3 v1 (ci 1) s
set_option maxRecDepth 4000 in
theorem k_X10_put_r {N : Nat} {xs : Nat → Int32} (t : Nat) (d : Nat) (h_t : isT t) {r : Option Value × mH} {s : mG} {a1 : Int32} {a2 : Int32} {a3 : Int32} {τ : (mG)} (hJ : F_X10_put t a1 a2 a3 s = some τ) (hC : (fun τ => r = (none, (SH, τ))) τ) : Rn N xs (d + 0) me134 0 [some (.ref t), some (.int a1), some (.int a2), some (.int a3), none, none] [] (SH, s) r := by
  unfold F_X10_put at hJ
  refine Rn_sq srt134 0 2 (pc' := 2) (ls' := [some (.ref t), some (.int a1), some (.int a2), some (.int a3), none, none]) (st' := [(.ref t), (.int a1)]) (h1 := (SH, s)) rfl ?_
  refine Rn_ev srt134 2 rfl rfl rfl (op_gfT1 h_t) ?_
  extract_lets v1 at hJ
  refine Rn_sq srt134 3 6 (pc' := (if a1 < 0 then 38 else 14)) (ls' := [some (.ref t), some (.int a1), some (.int a2), some (.int a3), some (.int v1), none]) (st' := []) (h1 := (SH, s)) rfl (Rn_if (fun h2 => ?_) (fun h2 => ?_))
  · replace hJ := m_ifp h2 hJ
    exact Rn_weaken (a := [some (.ref t), none, none, some (.int a3), some (.int v1), none]) (b := [some (.ref t), some (.int a1), some (.int a2), some (.int a3), some (.int v1), none]) (And.intro rfl (And.intro rfl (And.intro rfl trivial))) rfl (k_X10_put_38 t d h_t hJ hC)
  · replace hJ := m_ifn h2 hJ
    refine Rn_sq srt134 9 2 (pc' := 16) (ls' := [some (.ref t), some (.int a1), some (.int a2), some (.int a3), some (.int v1), none]) (st' := [(.ref t), (.int a1)]) (h1 := (SH, s)) rfl ?_
    refine Rn_ev srt134 11 rfl rfl rfl (op_gfT3 h_t) ?_
    refine Rn_sq srt134 12 1 (pc' := (if (s.1 t 3) ≤ a1 then 38 else 22)) (ls' := [some (.ref t), some (.int a1), some (.int a2), some (.int a3), some (.int v1), none]) (st' := []) (h1 := (SH, s)) rfl (Rn_if (fun h8 => ?_) (fun h8 => ?_))
    · replace hJ := m_ifp h8 hJ
      exact Rn_weaken (a := [some (.ref t), none, none, some (.int a3), some (.int v1), none]) (b := [some (.ref t), some (.int a1), some (.int a2), some (.int a3), some (.int v1), none]) (And.intro rfl (And.intro rfl (And.intro rfl trivial))) rfl (k_X10_put_38 t d h_t hJ hC)
    · replace hJ := m_ifn h8 hJ
      refine Rn_sq srt134 13 2 (pc' := (if a2 < 0 then 38 else 26)) (ls' := [some (.ref t), some (.int a1), some (.int a2), some (.int a3), some (.int v1), none]) (st' := []) (h1 := (SH, s)) rfl (Rn_if (fun h9 => ?_) (fun h9 => ?_))
      · replace hJ := m_ifp h9 hJ
        exact Rn_weaken (a := [some (.ref t), none, none, some (.int a3), some (.int v1), none]) (b := [some (.ref t), some (.int a1), some (.int a2), some (.int a3), some (.int v1), none]) (And.intro rfl (And.intro rfl (And.intro rfl trivial))) rfl (k_X10_put_38 t d h_t hJ hC)
      · replace hJ := m_ifn h9 hJ
        refine Rn_sq srt134 15 2 (pc' := 28) (ls' := [some (.ref t), some (.int a1), some (.int a2), some (.int a3), some (.int v1), none]) (st' := [(.ref t), (.int a2)]) (h1 := (SH, s)) rfl ?_
        refine Rn_ev srt134 17 rfl rfl rfl (op_gfT1 h_t) ?_
        refine Rn_sq srt134 18 1 (pc' := (if (s.1 t 1) ≤ a2 then 38 else 34)) (ls' := [some (.ref t), some (.int a1), some (.int a2), some (.int a3), some (.int v1), none]) (st' := []) (h1 := (SH, s)) rfl (Rn_if (fun h10 => ?_) (fun h10 => ?_))
        · replace hJ := m_ifp h10 hJ
          exact Rn_weaken (a := [some (.ref t), none, none, some (.int a3), some (.int v1), none]) (b := [some (.ref t), some (.int a1), some (.int a2), some (.int a3), some (.int v1), none]) (And.intro rfl (And.intro rfl (And.intro rfl trivial))) rfl (k_X10_put_38 t d h_t hJ hC)
        · replace hJ := m_ifn h10 hJ
          refine Rn_sq srt134 19 2 (pc' := 39) (ls' := [some (.ref t), some (.int a1), some (.int a2), some (.int a3), some (.int v1), none]) (st' := [(.int (ci 1))]) (h1 := (SH, s)) rfl ?_
          exact Rn_weaken (a := [some (.ref t), none, none, some (.int a3), some (.int v1), none]) (b := [some (.ref t), some (.int a1), some (.int a2), some (.int a3), some (.int v1), none]) (And.intro rfl (And.intro rfl (And.intro rfl trivial))) rfl (k_X10_put_39 t d h_t hJ hC)
theorem k_X10_put {N : Nat} {xs : Nat → Int32} (t : Nat) (d : Nat) (h_t : isT t) {s : mG} {a1 : Int32} {a2 : Int32} {a3 : Int32} {τ : (mG)} (hJ : F_X10_put t a1 a2 a3 s = some τ) : Rn N xs (d + 0) me134 0 [some (.ref t), some (.int a1), some (.int a2), some (.int a3), none, none] [] (SH, s) (none, (SH, τ)) := k_X10_put_r t d h_t hJ rfl
end
