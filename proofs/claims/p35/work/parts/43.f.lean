noncomputable section
/-! IsHeIn$Rounds.roomsBefore(I)I -/
theorem srt122 : m_srt mc122 = true := by decide +kernel
def C_X9_roomsBefore_4 (N : Nat) (xs : Nat → Int32) (s : mG) (d : Nat) (r : Option Value × mH) (C : (Int32) → Prop) : ((Int32 × Int32 × Int32) ⊕ (Int32)) → Prop
  | .inl v => Rn N xs (d + 1) me122 4 [some (.ref 83), some (.int v.1), some (.int v.2.1), some (.int v.2.2), none, none] [] (SH, s) r
  | .inr a => C a
def F_X9_roomsBefore_91 (s : mG) (x1 : Int32) (x3 : Int32) (y0 : Int32) (y1 : Int32) : Option ((Int32 × Int32 × Int32) ⊕ (Int32)) :=
  some (Sum.inl (x1, (y0 + y1), (x3 + ci 1)))
set_option maxRecDepth 4000 in
theorem k_X9_roomsBefore_91 {N : Nat} {xs : Nat → Int32} (d : Nat) {r : Option Value × mH} {s : mG} {x1 : Int32} {x3 : Int32} {y0 : Int32} {y1 : Int32} {τ : ((Int32 × Int32 × Int32) ⊕ (Int32))} (hJ : F_X9_roomsBefore_91 s x1 x3 y0 y1 = some τ) (hC : (C_X9_roomsBefore_4 N xs s d r (fun τ => r = (some (.int τ), (SH, s)))) τ) : Rn N xs (d + 1) me122 91 [some (.ref 83), some (.int x1), none, some (.int x3), none, none] [(.int y1), (.int y0)] (SH, s) r := by
  unfold F_X9_roomsBefore_91 at hJ
  refine Rn_sq srt122 47 4 (pc' := 4) (ls' := [some (.ref 83), some (.int x1), some (.int (y0 + y1)), some (.int (x3 + ci 1)), none, none]) (st' := []) (h1 := (SH, s)) rfl ?_
  rw [← Option.some.inj hJ] at hC
  exact hC
def F_X9_roomsBefore_90 (s : mG) (x1 : Int32) (x3 : Int32) (y0 : Int32) : Option ((Int32 × Int32 × Int32) ⊕ (Int32)) :=
  F_X9_roomsBefore_91 s x1 x3 y0 (ci 0)
set_option maxRecDepth 4000 in
theorem k_X9_roomsBefore_90 {N : Nat} {xs : Nat → Int32} (d : Nat) {r : Option Value × mH} {s : mG} {x1 : Int32} {x3 : Int32} {y0 : Int32} {τ : ((Int32 × Int32 × Int32) ⊕ (Int32))} (hJ : F_X9_roomsBefore_90 s x1 x3 y0 = some τ) (hC : (C_X9_roomsBefore_4 N xs s d r (fun τ => r = (some (.int τ), (SH, s)))) τ) : Rn N xs (d + 1) me122 90 [some (.ref 83), some (.int x1), none, some (.int x3), none, none] [(.int y0)] (SH, s) r := by
  unfold F_X9_roomsBefore_90 at hJ
  refine Rn_sq srt122 46 1 (pc' := 91) (ls' := [some (.ref 83), some (.int x1), none, some (.int x3), none, none]) (st' := [(.int (ci 0)), (.int y0)]) (h1 := (SH, s)) rfl ?_
  exact (k_X9_roomsBefore_91 d hJ hC)
def F_X9_roomsBefore_86 (s : mG) (x1 : Int32) (x3 : Int32) (y0 : Int32) : Option ((Int32 × Int32 × Int32) ⊕ (Int32)) :=
  F_X9_roomsBefore_91 s x1 x3 y0 (ci 1)
set_option maxRecDepth 4000 in
theorem k_X9_roomsBefore_86 {N : Nat} {xs : Nat → Int32} (d : Nat) {r : Option Value × mH} {s : mG} {x1 : Int32} {x3 : Int32} {y0 : Int32} {τ : ((Int32 × Int32 × Int32) ⊕ (Int32))} (hJ : F_X9_roomsBefore_86 s x1 x3 y0 = some τ) (hC : (C_X9_roomsBefore_4 N xs s d r (fun τ => r = (some (.int τ), (SH, s)))) τ) : Rn N xs (d + 1) me122 86 [some (.ref 83), some (.int x1), none, some (.int x3), none, none] [(.int y0)] (SH, s) r := by
  unfold F_X9_roomsBefore_86 at hJ
  refine Rn_sq srt122 44 2 (pc' := 91) (ls' := [some (.ref 83), some (.int x1), none, some (.int x3), none, none]) (st' := [(.int (ci 1)), (.int y0)]) (h1 := (SH, s)) rfl ?_
  exact (k_X9_roomsBefore_91 d hJ hC)
def F_X9_roomsBefore_68 (s : mG) (x1 : Int32) (x2 : Int32) (x3 : Int32) (x4 : Int32) (y0 : Int32) : Option ((Int32 × Int32 × Int32) ⊕ (Int32)) :=
  if x4 = 0 then
    if y0 = 0 then
      F_X9_roomsBefore_90 s x1 x3 x2
    else
      if x1 ≤ x3 then
        F_X9_roomsBefore_90 s x1 x3 x2
      else
        F_X9_roomsBefore_86 s x1 x3 x2
  else
    F_X9_roomsBefore_86 s x1 x3 x2
set_option maxRecDepth 4000 in
theorem k_X9_roomsBefore_68 {N : Nat} {xs : Nat → Int32} (d : Nat) {r : Option Value × mH} {s : mG} {x1 : Int32} {x2 : Int32} {x3 : Int32} {x4 : Int32} {y0 : Int32} {τ : ((Int32 × Int32 × Int32) ⊕ (Int32))} (hJ : F_X9_roomsBefore_68 s x1 x2 x3 x4 y0 = some τ) (hC : (C_X9_roomsBefore_4 N xs s d r (fun τ => r = (some (.int τ), (SH, s)))) τ) : Rn N xs (d + 1) me122 68 [some (.ref 83), some (.int x1), some (.int x2), some (.int x3), some (.int x4), none] [(.int y0)] (SH, s) r := by
  unfold F_X9_roomsBefore_68 at hJ
  refine Rn_sq srt122 35 4 (pc' := (if x4 = 0 then 76 else 86)) (ls' := [some (.ref 83), some (.int x1), some (.int x2), some (.int x3), some (.int x4), some (.int y0)]) (st' := [(.int x2)]) (h1 := (SH, s)) rfl (Rn_if (fun h12 => ?_) (fun h12 => ?_))
  · replace hJ := m_ifp h12 hJ
    refine Rn_sq srt122 39 2 (pc' := (if y0 = 0 then 90 else 81)) (ls' := [some (.ref 83), some (.int x1), some (.int x2), some (.int x3), some (.int x4), some (.int y0)]) (st' := [(.int x2)]) (h1 := (SH, s)) rfl (Rn_if (fun h13 => ?_) (fun h13 => ?_))
    · replace hJ := m_ifp h13 hJ
      exact Rn_weaken (a := [some (.ref 83), some (.int x1), none, some (.int x3), none, none]) (b := [some (.ref 83), some (.int x1), some (.int x2), some (.int x3), some (.int x4), some (.int y0)]) (And.intro rfl (And.intro rfl (And.intro rfl trivial))) rfl (k_X9_roomsBefore_90 d hJ hC)
    · replace hJ := m_ifn h13 hJ
      refine Rn_sq srt122 41 3 (pc' := (if x1 ≤ x3 then 90 else 86)) (ls' := [some (.ref 83), some (.int x1), some (.int x2), some (.int x3), some (.int x4), some (.int y0)]) (st' := [(.int x2)]) (h1 := (SH, s)) rfl (Rn_if (fun h14 => ?_) (fun h14 => ?_))
      · replace hJ := m_ifp h14 hJ
        exact Rn_weaken (a := [some (.ref 83), some (.int x1), none, some (.int x3), none, none]) (b := [some (.ref 83), some (.int x1), some (.int x2), some (.int x3), some (.int x4), some (.int y0)]) (And.intro rfl (And.intro rfl (And.intro rfl trivial))) rfl (k_X9_roomsBefore_90 d hJ hC)
      · replace hJ := m_ifn h14 hJ
        exact Rn_weaken (a := [some (.ref 83), some (.int x1), none, some (.int x3), none, none]) (b := [some (.ref 83), some (.int x1), some (.int x2), some (.int x3), some (.int x4), some (.int y0)]) (And.intro rfl (And.intro rfl (And.intro rfl trivial))) rfl (k_X9_roomsBefore_86 d hJ hC)
  · replace hJ := m_ifn h12 hJ
    exact Rn_weaken (a := [some (.ref 83), some (.int x1), none, some (.int x3), none, none]) (b := [some (.ref 83), some (.int x1), some (.int x2), some (.int x3), some (.int x4), some (.int y0)]) (And.intro rfl (And.intro rfl (And.intro rfl trivial))) rfl (k_X9_roomsBefore_86 d hJ hC)
def F_X9_roomsBefore_42 (s : mG) (x1 : Int32) (x2 : Int32) (x3 : Int32) (y0 : Int32) : Option ((Int32 × Int32 × Int32) ⊕ (Int32)) :=
  b1 (F_X11_cell 84 s x3) fun v8 =>
  b1 (F_X11_cell 84 s x1) fun v10 =>
  if v8 = v10 then
    F_X9_roomsBefore_68 s x1 x2 x3 y0 (ci 1)
  else
    F_X9_roomsBefore_68 s x1 x2 x3 y0 (ci 0)
set_option maxRecDepth 4000 in
theorem k_X9_roomsBefore_42 {N : Nat} {xs : Nat → Int32} (d : Nat) {r : Option Value × mH} {s : mG} {x1 : Int32} {x2 : Int32} {x3 : Int32} {y0 : Int32} {τ : ((Int32 × Int32 × Int32) ⊕ (Int32))} (hJ : F_X9_roomsBefore_42 s x1 x2 x3 y0 = some τ) (hC : (C_X9_roomsBefore_4 N xs s d r (fun τ => r = (some (.int τ), (SH, s)))) τ) : Rn N xs (d + 1) me122 42 [some (.ref 83), some (.int x1), some (.int x2), some (.int x3), none, none] [(.int y0)] (SH, s) r := by
  unfold F_X9_roomsBefore_42 at hJ
  refine Rn_sq srt122 22 4 (pc' := 49) (ls' := [some (.ref 83), some (.int x1), some (.int x2), some (.int x3), some (.int y0), none]) (st' := [(.int x3), (.ref 84)]) (h1 := (SH, s)) rfl ?_
  obtain ⟨v8, h7, hJ⟩ := m_b1 hJ
  refine Rn_call srt122 26 rfl rfl rfl ⟨Nat.le_of_ble_eq_true rfl, Nat.le_of_ble_eq_true rfl, rfl, Nat.le_of_ble_eq_true rfl⟩ (k_X11_cell 84 (d) h7) (show Rn N xs (d + 1) me122 52 [some (.ref 83), some (.int x1), some (.int x2), some (.int x3), some (.int y0), none] [(.int v8)] (SH, s) r from ?_)
  refine Rn_sq srt122 27 3 (pc' := 57) (ls' := [some (.ref 83), some (.int x1), some (.int x2), some (.int x3), some (.int y0), none]) (st' := [(.int x1), (.ref 84), (.int v8)]) (h1 := (SH, s)) rfl ?_
  obtain ⟨v10, h9, hJ⟩ := m_b1 hJ
  refine Rn_call srt122 30 rfl rfl rfl ⟨Nat.le_of_ble_eq_true rfl, Nat.le_of_ble_eq_true rfl, rfl, Nat.le_of_ble_eq_true rfl⟩ (k_X11_cell 84 (d) h9) (show Rn N xs (d + 1) me122 60 [some (.ref 83), some (.int x1), some (.int x2), some (.int x3), some (.int y0), none] [(.int v10), (.int v8)] (SH, s) r from ?_)
  refine Rn_sq srt122 31 1 (pc' := (if v8 = v10 then 63 else 67)) (ls' := [some (.ref 83), some (.int x1), some (.int x2), some (.int x3), some (.int y0), none]) (st' := []) (h1 := (SH, s)) rfl (Rn_if (fun h11 => ?_) (fun h11 => ?_))
  · replace hJ := m_ifp h11 hJ
    refine Rn_sq srt122 32 2 (pc' := 68) (ls' := [some (.ref 83), some (.int x1), some (.int x2), some (.int x3), some (.int y0), none]) (st' := [(.int (ci 1))]) (h1 := (SH, s)) rfl ?_
    exact (k_X9_roomsBefore_68 d hJ hC)
  · replace hJ := m_ifn h11 hJ
    refine Rn_sq srt122 34 1 (pc' := 68) (ls' := [some (.ref 83), some (.int x1), some (.int x2), some (.int x3), some (.int y0), none]) (st' := [(.int (ci 0))]) (h1 := (SH, s)) rfl ?_
    exact (k_X9_roomsBefore_68 d hJ hC)
def F_X9_roomsBefore_B4 (s : mG) (x1 : Int32) (x2 : Int32) (x3 : Int32) : Option ((Int32 × Int32 × Int32) ⊕ (Int32)) :=
  if (s.1 14 3) ≤ x3 then
    some (Sum.inr x2)
  else
    b1 (F_X11_cell 84 s x3) fun v3 =>
    b1 (F_X11_cell 84 s x1) fun v5 =>
    if v5 ≤ v3 then
      F_X9_roomsBefore_42 s x1 x2 x3 (ci 0)
    else
      F_X9_roomsBefore_42 s x1 x2 x3 (ci 1)
set_option maxRecDepth 4000 in
theorem k_X9_roomsBefore_B4 {N : Nat} {xs : Nat → Int32} (d : Nat) {r : Option Value × mH} {s : mG} {x1 : Int32} {x2 : Int32} {x3 : Int32} {τ : ((Int32 × Int32 × Int32) ⊕ (Int32))} (hJ : F_X9_roomsBefore_B4 s x1 x2 x3 = some τ) (hC : (C_X9_roomsBefore_4 N xs s d r (fun τ => r = (some (.int τ), (SH, s)))) τ) : Rn N xs (d + 1) me122 4 [some (.ref 83), some (.int x1), some (.int x2), some (.int x3), none, none] [] (SH, s) r := by
  unfold F_X9_roomsBefore_B4 at hJ
  refine Rn_sq srt122 4 6 (pc' := (if (s.1 14 3) ≤ x3 then 99 else 18)) (ls' := [some (.ref 83), some (.int x1), some (.int x2), some (.int x3), none, none]) (st' := []) (h1 := (SH, s)) rfl (Rn_if (fun h1 => ?_) (fun h1 => ?_))
  · replace hJ := m_ifp h1 hJ
    refine Rn_sq srt122 51 1 (pc' := 100) (ls' := [some (.ref 83), some (.int x1), some (.int x2), some (.int x3), none, none]) (st' := [(.int x2)]) (h1 := (SH, s)) rfl ?_
    rw [← Option.some.inj hJ] at hC
    have hC : r = (some (.int x2), (SH, s)) := hC
    subst hC
    exact Rn_ret srt122 52 rfl rfl rfl
  · replace hJ := m_ifn h1 hJ
    refine Rn_sq srt122 10 3 (pc' := 23) (ls' := [some (.ref 83), some (.int x1), some (.int x2), some (.int x3), none, none]) (st' := [(.int x3), (.ref 84)]) (h1 := (SH, s)) rfl ?_
    obtain ⟨v3, h2, hJ⟩ := m_b1 hJ
    refine Rn_call srt122 13 rfl rfl rfl ⟨Nat.le_of_ble_eq_true rfl, Nat.le_of_ble_eq_true rfl, rfl, Nat.le_of_ble_eq_true rfl⟩ (k_X11_cell 84 (d) h2) (show Rn N xs (d + 1) me122 26 [some (.ref 83), some (.int x1), some (.int x2), some (.int x3), none, none] [(.int v3)] (SH, s) r from ?_)
    refine Rn_sq srt122 14 3 (pc' := 31) (ls' := [some (.ref 83), some (.int x1), some (.int x2), some (.int x3), none, none]) (st' := [(.int x1), (.ref 84), (.int v3)]) (h1 := (SH, s)) rfl ?_
    obtain ⟨v5, h4, hJ⟩ := m_b1 hJ
    refine Rn_call srt122 17 rfl rfl rfl ⟨Nat.le_of_ble_eq_true rfl, Nat.le_of_ble_eq_true rfl, rfl, Nat.le_of_ble_eq_true rfl⟩ (k_X11_cell 84 (d) h4) (show Rn N xs (d + 1) me122 34 [some (.ref 83), some (.int x1), some (.int x2), some (.int x3), none, none] [(.int v5), (.int v3)] (SH, s) r from ?_)
    refine Rn_sq srt122 18 1 (pc' := (if v5 ≤ v3 then 41 else 37)) (ls' := [some (.ref 83), some (.int x1), some (.int x2), some (.int x3), none, none]) (st' := []) (h1 := (SH, s)) rfl (Rn_if (fun h6 => ?_) (fun h6 => ?_))
    · replace hJ := m_ifp h6 hJ
      refine Rn_sq srt122 21 1 (pc' := 42) (ls' := [some (.ref 83), some (.int x1), some (.int x2), some (.int x3), none, none]) (st' := [(.int (ci 0))]) (h1 := (SH, s)) rfl ?_
      exact (k_X9_roomsBefore_42 d hJ hC)
    · replace hJ := m_ifn h6 hJ
      refine Rn_sq srt122 19 2 (pc' := 42) (ls' := [some (.ref 83), some (.int x1), some (.int x2), some (.int x3), none, none]) (st' := [(.int (ci 1))]) (h1 := (SH, s)) rfl ?_
      exact (k_X9_roomsBefore_42 d hJ hC)
def F_X9_roomsBefore_L4 (s : mG) (x1 : Int32) (x2 : Int32) (x3 : Int32) : Option (Int32) := whl (fun (v : (Int32 × Int32 × Int32)) => F_X9_roomsBefore_B4 s v.1 v.2.1 v.2.2) (x1, x2, x3)
theorem k_X9_roomsBefore_L4 {N : Nat} {xs : Nat → Int32} (d : Nat) {r : Option Value × mH} {s : mG} {x1 : Int32} {x2 : Int32} {x3 : Int32} {τ : (Int32)} (hJ : F_X9_roomsBefore_L4 s x1 x2 x3 = some τ) (hC : (fun τ => r = (some (.int τ), (SH, s))) τ) : Rn N xs (d + 1) me122 4 [some (.ref 83), some (.int x1), some (.int x2), some (.int x3), none, none] [] (SH, s) r :=
  whl_link (P := fun (v : (Int32 × Int32 × Int32)) => Rn N xs (d + 1) me122 4 [some (.ref 83), some (.int v.1), some (.int v.2.1), some (.int v.2.2), none, none] [] (SH, s) r) (C := (C_X9_roomsBefore_4 N xs s d r (fun τ => r = (some (.int τ), (SH, s))))) (fun v τ h1 h2 => k_X9_roomsBefore_B4 d h1 h2) (fun _ h => h) (fun _ h => h) _ _ hJ hC
def F_X9_roomsBefore (s : mG) (a1 : Int32) : Option (Int32) :=
  F_X9_roomsBefore_L4 s a1 (ci 0) (ci 0)
set_option maxRecDepth 4000 in
theorem k_X9_roomsBefore_r {N : Nat} {xs : Nat → Int32} (d : Nat) {r : Option Value × mH} {s : mG} {a1 : Int32} {τ : (Int32)} (hJ : F_X9_roomsBefore s a1 = some τ) (hC : (fun τ => r = (some (.int τ), (SH, s))) τ) : Rn N xs (d + 1) me122 0 [some (.ref 83), some (.int a1), none, none, none, none] [] (SH, s) r := by
  unfold F_X9_roomsBefore at hJ
  refine Rn_sq srt122 0 4 (pc' := 4) (ls' := [some (.ref 83), some (.int a1), some (.int (ci 0)), some (.int (ci 0)), none, none]) (st' := []) (h1 := (SH, s)) rfl ?_
  exact (k_X9_roomsBefore_L4 d hJ hC)
theorem k_X9_roomsBefore {N : Nat} {xs : Nat → Int32} (d : Nat) {s : mG} {a1 : Int32} {τ : (Int32)} (hJ : F_X9_roomsBefore s a1 = some τ) : Rn N xs (d + 1) me122 0 [some (.ref 83), some (.int a1), none, none, none, none] [] (SH, s) (some (.int τ), (SH, s)) := k_X9_roomsBefore_r d hJ rfl
/-! IsHeIn$Rounds.roomAt(I)I -/
theorem srt121 : m_srt mc121 = true := by decide +kernel
def C_X9_roomAt_2 (N : Nat) (xs : Nat → Int32) (d : Nat) (r : Option Value × mH) (C : (Int32 × mG) → Prop) : ((Int32 × Int32 × mG) ⊕ (Int32 × mG)) → Prop
  | .inl v => Rn N xs (d + 5) me121 2 [some (.ref 83), some (.int v.1), some (.int v.2.1)] [] (SH, v.2.2) r
  | .inr a => C a
def C_X9_roomAt_51 (N : Nat) (xs : Nat → Int32) (d : Nat) (r : Option Value × mH) (C : (Int32 × mG) → Prop) : ((Int32 × Int32 × mG) ⊕ (Int32 × mG)) → Prop
  | .inl v => Rn N xs (d + 5) me121 51 [some (.ref 83), some (.int v.1), some (.int v.2.1)] [] (SH, v.2.2) r
  | .inr a => C a
def F_X9_roomAt_B51 (x1 : Int32) (x2 : Int32) (s : mG) : Option ((Int32 × Int32 × mG) ⊕ (Int32 × mG)) :=
  if (s.1 14 3) ≤ x2 then
    some (Sum.inr ((ci (-1)), s))
  else
    b1 (F_X9_roomsBefore s x2) fun v4 =>
    if v4 = x1 then
      some (Sum.inr (x2, s))
    else
      some (Sum.inl (x1, (x2 + ci 1), s))
set_option maxRecDepth 4000 in
theorem k_X9_roomAt_B51 {N : Nat} {xs : Nat → Int32} (d : Nat) {r : Option Value × mH} {s : mG} {x1 : Int32} {x2 : Int32} {τ : ((Int32 × Int32 × mG) ⊕ (Int32 × mG))} (hJ : F_X9_roomAt_B51 x1 x2 s = some τ) (hC : (C_X9_roomAt_51 N xs d r (fun τ => r = (some (.int τ.1), (SH, τ.2)))) τ) : Rn N xs (d + 5) me121 51 [some (.ref 83), some (.int x1), some (.int x2)] [] (SH, s) r := by
  unfold F_X9_roomAt_B51 at hJ
  refine Rn_sq srt121 25 6 (pc' := (if (s.1 14 3) ≤ x2 then 82 else 65)) (ls' := [some (.ref 83), some (.int x1), some (.int x2)]) (st' := []) (h1 := (SH, s)) rfl (Rn_if (fun h2 => ?_) (fun h2 => ?_))
  · replace hJ := m_ifp h2 hJ
    refine Rn_sq srt121 40 1 (pc' := 83) (ls' := [some (.ref 83), some (.int x1), some (.int x2)]) (st' := [(.int (ci (-1)))]) (h1 := (SH, s)) rfl ?_
    rw [← Option.some.inj hJ] at hC
    have hC : r = (some (.int (ci (-1))), (SH, s)) := hC
    subst hC
    exact Rn_ret srt121 41 rfl rfl rfl
  · replace hJ := m_ifn h2 hJ
    refine Rn_sq srt121 31 2 (pc' := 67) (ls' := [some (.ref 83), some (.int x1), some (.int x2)]) (st' := [(.int x2), (.ref 83)]) (h1 := (SH, s)) rfl ?_
    obtain ⟨v4, h3, hJ⟩ := m_b1 hJ
    refine Rn_call srt121 33 rfl rfl rfl ⟨Nat.le_of_ble_eq_true rfl, Nat.le_of_ble_eq_true rfl, rfl, Nat.le_of_ble_eq_true rfl⟩ (k_X9_roomsBefore (d + 3) h3) (show Rn N xs (d + 5) me121 70 [some (.ref 83), some (.int x1), some (.int x2)] [(.int v4)] (SH, s) r from ?_)
    refine Rn_sq srt121 34 2 (pc' := (if v4 = x1 then 74 else 76)) (ls' := [some (.ref 83), some (.int x1), some (.int x2)]) (st' := []) (h1 := (SH, s)) rfl (Rn_if (fun h5 => ?_) (fun h5 => ?_))
    · replace hJ := m_ifp h5 hJ
      refine Rn_sq srt121 36 1 (pc' := 75) (ls' := [some (.ref 83), some (.int x1), some (.int x2)]) (st' := [(.int x2)]) (h1 := (SH, s)) rfl ?_
      rw [← Option.some.inj hJ] at hC
      have hC : r = (some (.int x2), (SH, s)) := hC
      subst hC
      exact Rn_ret srt121 37 rfl rfl rfl
    · replace hJ := m_ifn h5 hJ
      refine Rn_sq srt121 38 2 (pc' := 51) (ls' := [some (.ref 83), some (.int x1), some (.int (x2 + ci 1))]) (st' := []) (h1 := (SH, s)) rfl ?_
      rw [← Option.some.inj hJ] at hC
      exact hC
def F_X9_roomAt_L51 (x1 : Int32) (x2 : Int32) (s : mG) : Option (Int32 × mG) := whl (fun (v : (Int32 × Int32 × mG)) => F_X9_roomAt_B51 v.1 v.2.1 v.2.2) (x1, x2, s)
theorem k_X9_roomAt_L51 {N : Nat} {xs : Nat → Int32} (d : Nat) {r : Option Value × mH} {s : mG} {x1 : Int32} {x2 : Int32} {τ : (Int32 × mG)} (hJ : F_X9_roomAt_L51 x1 x2 s = some τ) (hC : (fun τ => r = (some (.int τ.1), (SH, τ.2))) τ) : Rn N xs (d + 5) me121 51 [some (.ref 83), some (.int x1), some (.int x2)] [] (SH, s) r :=
  whl_link (P := fun (v : (Int32 × Int32 × mG)) => Rn N xs (d + 5) me121 51 [some (.ref 83), some (.int v.1), some (.int v.2.1)] [] (SH, v.2.2) r) (C := (C_X9_roomAt_51 N xs d r (fun τ => r = (some (.int τ.1), (SH, τ.2))))) (fun v τ h1 h2 => k_X9_roomAt_B51 d h1 h2) (fun _ h => h) (fun _ h => h) _ _ hJ hC
def F_X9_roomAt_B2 (x1 : Int32) (x2 : Int32) (s : mG) : Option ((Int32 × Int32 × mG) ⊕ (Int32 × mG)) :=
  if (s.1 14 3) ≤ x2 then
    b1 (F_X9_roomAt_L51 x1 (ci 0) s) fun τ => some (Sum.inr τ)
  else
    b1 (F_X10_at 14 s x2 (ci 0)) fun v7 =>
    b2 (F_X0_sureOf v7 s) fun v10 s9 =>
    b1 (F_X11_put 84 x2 v10 s9) fun s12 =>
    some (Sum.inl (x1, (x2 + ci 1), s12))
set_option maxRecDepth 4000 in
theorem k_X9_roomAt_B2 {N : Nat} {xs : Nat → Int32} (d : Nat) {r : Option Value × mH} {s : mG} {x1 : Int32} {x2 : Int32} {τ : ((Int32 × Int32 × mG) ⊕ (Int32 × mG))} (hJ : F_X9_roomAt_B2 x1 x2 s = some τ) (hC : (C_X9_roomAt_2 N xs d r (fun τ => r = (some (.int τ.1), (SH, τ.2)))) τ) : Rn N xs (d + 5) me121 2 [some (.ref 83), some (.int x1), some (.int x2)] [] (SH, s) r := by
  unfold F_X9_roomAt_B2 at hJ
  refine Rn_sq srt121 2 6 (pc' := (if (s.1 14 3) ≤ x2 then 49 else 16)) (ls' := [some (.ref 83), some (.int x1), some (.int x2)]) (st' := []) (h1 := (SH, s)) rfl (Rn_if (fun h1 => ?_) (fun h1 => ?_))
  · replace hJ := m_ifp h1 hJ
    refine Rn_sq srt121 23 2 (pc' := 51) (ls' := [some (.ref 83), some (.int x1), some (.int (ci 0))]) (st' := []) (h1 := (SH, s)) rfl ?_
    obtain ⟨τ1, hJ1, hJ⟩ := m_b1 hJ
    rw [← Option.some.inj hJ] at hC
    exact (k_X9_roomAt_L51 d hJ1 hC)
  · replace hJ := m_ifn h1 hJ
    refine Rn_sq srt121 8 10 (pc' := 34) (ls' := [some (.ref 83), some (.int x1), some (.int x2)]) (st' := [(.int (ci 0)), (.int x2), (.ref 14), (.ref 73), (.int x2), (.ref 84)]) (h1 := (SH, s)) rfl ?_
    obtain ⟨v7, h6, hJ⟩ := m_b1 hJ
    refine Rn_call srt121 18 rfl rfl rfl ⟨Nat.le_of_ble_eq_true rfl, Nat.le_of_ble_eq_true rfl, rfl, Nat.le_of_ble_eq_true rfl⟩ (k_X10_at 14 (d + 4) isT_14 h6) (show Rn N xs (d + 5) me121 37 [some (.ref 83), some (.int x1), some (.int x2)] [(.int v7), (.ref 73), (.int x2), (.ref 84)] (SH, s) r from ?_)
    obtain ⟨v10, s9, h8, hJ⟩ := m_b2 hJ
    refine Rn_call srt121 19 rfl rfl rfl ⟨Nat.le_of_ble_eq_true rfl, Nat.le_of_ble_eq_true rfl, rfl, Nat.le_of_ble_eq_true rfl⟩ (k_X0_sureOf (d) h8) (show Rn N xs (d + 5) me121 40 [some (.ref 83), some (.int x1), some (.int x2)] [(.int v10), (.int x2), (.ref 84)] (SH, s9) r from ?_)
    obtain ⟨s12, h11, hJ⟩ := m_b1 hJ
    refine Rn_call srt121 20 rfl rfl rfl ⟨Nat.le_of_ble_eq_true rfl, Nat.le_of_ble_eq_true rfl, rfl, Nat.le_of_ble_eq_true rfl⟩ (k_X11_put 84 (d + 4) h11) (show Rn N xs (d + 5) me121 43 [some (.ref 83), some (.int x1), some (.int x2)] [] (SH, s12) r from ?_)
    refine Rn_sq srt121 21 2 (pc' := 2) (ls' := [some (.ref 83), some (.int x1), some (.int (x2 + ci 1))]) (st' := []) (h1 := (SH, s12)) rfl ?_
    rw [← Option.some.inj hJ] at hC
    exact hC
def F_X9_roomAt_L2 (x1 : Int32) (x2 : Int32) (s : mG) : Option (Int32 × mG) := whl (fun (v : (Int32 × Int32 × mG)) => F_X9_roomAt_B2 v.1 v.2.1 v.2.2) (x1, x2, s)
theorem k_X9_roomAt_L2 {N : Nat} {xs : Nat → Int32} (d : Nat) {r : Option Value × mH} {s : mG} {x1 : Int32} {x2 : Int32} {τ : (Int32 × mG)} (hJ : F_X9_roomAt_L2 x1 x2 s = some τ) (hC : (fun τ => r = (some (.int τ.1), (SH, τ.2))) τ) : Rn N xs (d + 5) me121 2 [some (.ref 83), some (.int x1), some (.int x2)] [] (SH, s) r :=
  whl_link (P := fun (v : (Int32 × Int32 × mG)) => Rn N xs (d + 5) me121 2 [some (.ref 83), some (.int v.1), some (.int v.2.1)] [] (SH, v.2.2) r) (C := (C_X9_roomAt_2 N xs d r (fun τ => r = (some (.int τ.1), (SH, τ.2))))) (fun v τ h1 h2 => k_X9_roomAt_B2 d h1 h2) (fun _ h => h) (fun _ h => h) _ _ hJ hC
def F_X9_roomAt (a1 : Int32) (s : mG) : Option (Int32 × mG) :=
  F_X9_roomAt_L2 a1 (ci 0) s
set_option maxRecDepth 4000 in
theorem k_X9_roomAt_r {N : Nat} {xs : Nat → Int32} (d : Nat) {r : Option Value × mH} {s : mG} {a1 : Int32} {τ : (Int32 × mG)} (hJ : F_X9_roomAt a1 s = some τ) (hC : (fun τ => r = (some (.int τ.1), (SH, τ.2))) τ) : Rn N xs (d + 5) me121 0 [some (.ref 83), some (.int a1), none] [] (SH, s) r := by
  unfold F_X9_roomAt at hJ
  refine Rn_sq srt121 0 2 (pc' := 2) (ls' := [some (.ref 83), some (.int a1), some (.int (ci 0))]) (st' := []) (h1 := (SH, s)) rfl ?_
  exact (k_X9_roomAt_L2 d hJ hC)
theorem k_X9_roomAt {N : Nat} {xs : Nat → Int32} (d : Nat) {s : mG} {a1 : Int32} {τ : (Int32 × mG)} (hJ : F_X9_roomAt a1 s = some τ) : Rn N xs (d + 5) me121 0 [some (.ref 83), some (.int a1), none] [] (SH, s) (some (.int τ.1), (SH, τ.2)) := k_X9_roomAt_r d hJ rfl
/-! IsHeIn$Rounds.worthOf(I)I -/
theorem srt125 : m_srt mc125 = true := by decide +kernel
def C_X9_worthOf_4 (N : Nat) (xs : Nat → Int32) (s : mG) (d : Nat) (r : Option Value × mH) (C : (Int32) → Prop) : ((Int32 × Int32 × Int32) ⊕ (Int32)) → Prop
  | .inl v => Rn N xs (d + 1) me125 4 [some (.ref 83), some (.int v.1), some (.int v.2.1), some (.int v.2.2)] [] (SH, s) r
  | .inr a => C a
def F_X9_worthOf_44 (s : mG) (x1 : Int32) (x3 : Int32) (y0 : Int32) (y1 : Int32) : Option ((Int32 × Int32 × Int32) ⊕ (Int32)) :=
  some (Sum.inl (x1, (y0 + y1), (x3 + ci 1)))
set_option maxRecDepth 4000 in
theorem k_X9_worthOf_44 {N : Nat} {xs : Nat → Int32} (d : Nat) {r : Option Value × mH} {s : mG} {x1 : Int32} {x3 : Int32} {y0 : Int32} {y1 : Int32} {τ : ((Int32 × Int32 × Int32) ⊕ (Int32))} (hJ : F_X9_worthOf_44 s x1 x3 y0 y1 = some τ) (hC : (C_X9_worthOf_4 N xs s d r (fun τ => r = (some (.int τ), (SH, s)))) τ) : Rn N xs (d + 1) me125 44 [some (.ref 83), some (.int x1), none, some (.int x3)] [(.int y1), (.int y0)] (SH, s) r := by
  unfold F_X9_worthOf_44 at hJ
  refine Rn_sq srt125 26 4 (pc' := 4) (ls' := [some (.ref 83), some (.int x1), some (.int (y0 + y1)), some (.int (x3 + ci 1))]) (st' := []) (h1 := (SH, s)) rfl ?_
  rw [← Option.some.inj hJ] at hC
  exact hC
def F_X9_worthOf_B4 (s : mG) (x1 : Int32) (x2 : Int32) (x3 : Int32) : Option ((Int32 × Int32 × Int32) ⊕ (Int32)) :=
  if (s.1 14 3) ≤ x3 then
    some (Sum.inr x2)
  else
    if ((x1 >>> (x3 &&& 31)) &&& (ci 1)) = (ci 1) then
      b1 (F_X10_at 14 s x3 (ci 3)) fun v4 =>
      F_X9_worthOf_44 s x1 x3 x2 v4
    else
      F_X9_worthOf_44 s x1 x3 x2 (ci 0)
set_option maxRecDepth 4000 in
theorem k_X9_worthOf_B4 {N : Nat} {xs : Nat → Int32} (d : Nat) {r : Option Value × mH} {s : mG} {x1 : Int32} {x2 : Int32} {x3 : Int32} {τ : ((Int32 × Int32 × Int32) ⊕ (Int32))} (hJ : F_X9_worthOf_B4 s x1 x2 x3 = some τ) (hC : (C_X9_worthOf_4 N xs s d r (fun τ => r = (some (.int τ), (SH, s)))) τ) : Rn N xs (d + 1) me125 4 [some (.ref 83), some (.int x1), some (.int x2), some (.int x3)] [] (SH, s) r := by
  unfold F_X9_worthOf_B4 at hJ
  refine Rn_sq srt125 4 6 (pc' := (if (s.1 14 3) ≤ x3 then 52 else 18)) (ls' := [some (.ref 83), some (.int x1), some (.int x2), some (.int x3)]) (st' := []) (h1 := (SH, s)) rfl (Rn_if (fun h1 => ?_) (fun h1 => ?_))
  · replace hJ := m_ifp h1 hJ
    refine Rn_sq srt125 30 1 (pc' := 53) (ls' := [some (.ref 83), some (.int x1), some (.int x2), some (.int x3)]) (st' := [(.int x2)]) (h1 := (SH, s)) rfl ?_
    rw [← Option.some.inj hJ] at hC
    have hC : r = (some (.int x2), (SH, s)) := hC
    subst hC
    exact Rn_ret srt125 31 rfl rfl rfl
  · replace hJ := m_ifn h1 hJ
    refine Rn_sq srt125 10 8 (pc' := (if ((x1 >>> (x3 &&& 31)) &&& (ci 1)) = (ci 1) then 28 else 43)) (ls' := [some (.ref 83), some (.int x1), some (.int x2), some (.int x3)]) (st' := [(.int x2)]) (h1 := (SH, s)) rfl (Rn_if (fun h2 => ?_) (fun h2 => ?_))
    · replace hJ := m_ifp h2 hJ
      refine Rn_sq srt125 18 5 (pc' := 37) (ls' := [some (.ref 83), some (.int x1), some (.int x2), some (.int x3)]) (st' := [(.int (ci 3)), (.int x3), (.ref 14), (.int x2)]) (h1 := (SH, s)) rfl ?_
      obtain ⟨v4, h3, hJ⟩ := m_b1 hJ
      refine Rn_call srt125 23 rfl rfl rfl ⟨Nat.le_of_ble_eq_true rfl, Nat.le_of_ble_eq_true rfl, rfl, Nat.le_of_ble_eq_true rfl⟩ (k_X10_at 14 (d) isT_14 h3) (show Rn N xs (d + 1) me125 40 [some (.ref 83), some (.int x1), some (.int x2), some (.int x3)] [(.int v4), (.int x2)] (SH, s) r from ?_)
      refine Rn_sq srt125 24 1 (pc' := 44) (ls' := [some (.ref 83), some (.int x1), some (.int x2), some (.int x3)]) (st' := [(.int v4), (.int x2)]) (h1 := (SH, s)) rfl ?_
      exact Rn_weaken (a := [some (.ref 83), some (.int x1), none, some (.int x3)]) (b := [some (.ref 83), some (.int x1), some (.int x2), some (.int x3)]) (And.intro rfl (And.intro rfl (And.intro rfl trivial))) rfl (k_X9_worthOf_44 d hJ hC)
    · replace hJ := m_ifn h2 hJ
      refine Rn_sq srt125 25 1 (pc' := 44) (ls' := [some (.ref 83), some (.int x1), some (.int x2), some (.int x3)]) (st' := [(.int (ci 0)), (.int x2)]) (h1 := (SH, s)) rfl ?_
      exact Rn_weaken (a := [some (.ref 83), some (.int x1), none, some (.int x3)]) (b := [some (.ref 83), some (.int x1), some (.int x2), some (.int x3)]) (And.intro rfl (And.intro rfl (And.intro rfl trivial))) rfl (k_X9_worthOf_44 d hJ hC)
def F_X9_worthOf_L4 (s : mG) (x1 : Int32) (x2 : Int32) (x3 : Int32) : Option (Int32) := whl (fun (v : (Int32 × Int32 × Int32)) => F_X9_worthOf_B4 s v.1 v.2.1 v.2.2) (x1, x2, x3)
theorem k_X9_worthOf_L4 {N : Nat} {xs : Nat → Int32} (d : Nat) {r : Option Value × mH} {s : mG} {x1 : Int32} {x2 : Int32} {x3 : Int32} {τ : (Int32)} (hJ : F_X9_worthOf_L4 s x1 x2 x3 = some τ) (hC : (fun τ => r = (some (.int τ), (SH, s))) τ) : Rn N xs (d + 1) me125 4 [some (.ref 83), some (.int x1), some (.int x2), some (.int x3)] [] (SH, s) r :=
  whl_link (P := fun (v : (Int32 × Int32 × Int32)) => Rn N xs (d + 1) me125 4 [some (.ref 83), some (.int v.1), some (.int v.2.1), some (.int v.2.2)] [] (SH, s) r) (C := (C_X9_worthOf_4 N xs s d r (fun τ => r = (some (.int τ), (SH, s))))) (fun v τ h1 h2 => k_X9_worthOf_B4 d h1 h2) (fun _ h => h) (fun _ h => h) _ _ hJ hC
def F_X9_worthOf (s : mG) (a1 : Int32) : Option (Int32) :=
  F_X9_worthOf_L4 s a1 (ci 0) (ci 0)
set_option maxRecDepth 4000 in
theorem k_X9_worthOf_r {N : Nat} {xs : Nat → Int32} (d : Nat) {r : Option Value × mH} {s : mG} {a1 : Int32} {τ : (Int32)} (hJ : F_X9_worthOf s a1 = some τ) (hC : (fun τ => r = (some (.int τ), (SH, s))) τ) : Rn N xs (d + 1) me125 0 [some (.ref 83), some (.int a1), none, none] [] (SH, s) r := by
  unfold F_X9_worthOf at hJ
  refine Rn_sq srt125 0 4 (pc' := 4) (ls' := [some (.ref 83), some (.int a1), some (.int (ci 0)), some (.int (ci 0))]) (st' := []) (h1 := (SH, s)) rfl ?_
  exact (k_X9_worthOf_L4 d hJ hC)
theorem k_X9_worthOf {N : Nat} {xs : Nat → Int32} (d : Nat) {s : mG} {a1 : Int32} {τ : (Int32)} (hJ : F_X9_worthOf s a1 = some τ) : Rn N xs (d + 1) me125 0 [some (.ref 83), some (.int a1), none, none] [] (SH, s) (some (.int τ), (SH, s)) := k_X9_worthOf_r d hJ rfl
/-! java/lang/Integer.bitCount(I)I -/
theorem srt320 : m_srt mc320 = true := by decide +kernel
def F_J6_bitCount_0f7a4 (s : mG) (a1 : Int32) : Option (Int32) :=
  let v1 : Int32 := (a1 - ((ushr a1 (ci 1)) &&& (ci 1431655765)))
  let v2 : Int32 := ((v1 &&& (ci 858993459)) + ((ushr v1 (ci 2)) &&& (ci 858993459)))
  let v3 : Int32 := ((v2 + (ushr v2 (ci 4))) &&& (ci 252645135))
  let v4 : Int32 := (v3 + (ushr v3 (c8 8)))
  let v5 : Int32 := (v4 + (ushr v4 (c8 16)))
  some (v5 &&& (c8 63))
set_option maxRecDepth 4000 in
theorem k_J6_bitCount_0f7a4_r {N : Nat} {xs : Nat → Int32} (d : Nat) {r : Option Value × mH} {s : mG} {a1 : Int32} {τ : (Int32)} (hJ : F_J6_bitCount_0f7a4 s a1 = some τ) (hC : (fun τ => r = (some (.int τ), (SH, s))) τ) : Rn N xs (d + 0) me320 0 [some (.int a1)] [] (SH, s) r := by
  unfold F_J6_bitCount_0f7a4 at hJ
  extract_lets +onlyGivenNames v1 at hJ
  extract_lets +onlyGivenNames v2 at hJ
  extract_lets +onlyGivenNames v3 at hJ
  extract_lets +onlyGivenNames v4 at hJ
  extract_lets +onlyGivenNames v5 at hJ
  refine Rn_sq srt320 0 41 (pc' := 52) (ls' := [some (.int v5)]) (st' := [(.int (v5 &&& (c8 63)))]) (h1 := (SH, s)) rfl ?_
  rw [← Option.some.inj hJ] at hC
  have hC : r = (some (.int (v5 &&& (c8 63))), (SH, s)) := hC
  subst hC
  exact Rn_ret srt320 41 rfl rfl rfl
theorem k_J6_bitCount_0f7a4 {N : Nat} {xs : Nat → Int32} (d : Nat) {s : mG} {a1 : Int32} {τ : (Int32)} (hJ : F_J6_bitCount_0f7a4 s a1 = some τ) : Rn N xs (d + 0) me320 0 [some (.int a1)] [] (SH, s) (some (.int τ), (SH, s)) := k_J6_bitCount_0f7a4_r d hJ rfl
/-! IsHeIn$Rounds.isBetter(II)Z -/
theorem srt124 : m_srt mc124 = true := by decide +kernel
def F_X9_isBetter_31 (s : mG) : Option (Int32) :=
  some (ci 1)
set_option maxRecDepth 4000 in
theorem k_X9_isBetter_31 {N : Nat} {xs : Nat → Int32} (d : Nat) {r : Option Value × mH} {s : mG} {τ : (Int32)} (hJ : F_X9_isBetter_31 s = some τ) (hC : (fun τ => r = (some (.int τ), (SH, s))) τ) : Rn N xs (d + 2) me124 31 [none, none, none, none] [] (SH, s) r := by
  unfold F_X9_isBetter_31 at hJ
  refine Rn_sq srt124 17 2 (pc' := 36) (ls' := [none, none, none, none]) (st' := [(.int (ci 1))]) (h1 := (SH, s)) rfl ?_
  rw [← Option.some.inj hJ] at hC
  have hC : r = (some (.int (ci 1)), (SH, s)) := hC
  subst hC
  exact Rn_ret srt124 20 rfl rfl (m_ret_b rfl (by decide))
def F_X9_isBetter_35 (s : mG) : Option (Int32) :=
  some (ci 0)
set_option maxRecDepth 4000 in
theorem k_X9_isBetter_35 {N : Nat} {xs : Nat → Int32} (d : Nat) {r : Option Value × mH} {s : mG} {τ : (Int32)} (hJ : F_X9_isBetter_35 s = some τ) (hC : (fun τ => r = (some (.int τ), (SH, s))) τ) : Rn N xs (d + 2) me124 35 [none, none, none, none] [] (SH, s) r := by
  unfold F_X9_isBetter_35 at hJ
  refine Rn_sq srt124 19 1 (pc' := 36) (ls' := [none, none, none, none]) (st' := [(.int (ci 0))]) (h1 := (SH, s)) rfl ?_
  rw [← Option.some.inj hJ] at hC
  have hC : r = (some (.int (ci 0)), (SH, s)) := hC
  subst hC
  exact Rn_ret srt124 20 rfl rfl (m_ret_b rfl (by decide))
def F_X9_isBetter (s : mG) (a1 : Int32) (a2 : Int32) : Option (Int32) :=
  b1 (F_X9_worthOf s a1) fun v2 =>
  b1 (F_X9_worthOf s a2) fun v4 =>
  if 0 < (v2 - v4) then
    F_X9_isBetter_31 s
  else
    if (v2 - v4) = 0 then
      b1 (F_J6_bitCount_0f7a4 s a1) fun v8 =>
      b1 (F_J6_bitCount_0f7a4 s a2) fun v10 =>
      if v10 ≤ v8 then
        F_X9_isBetter_35 s
      else
        F_X9_isBetter_31 s
    else
      F_X9_isBetter_35 s
set_option maxRecDepth 4000 in
theorem k_X9_isBetter_r {N : Nat} {xs : Nat → Int32} (d : Nat) {r : Option Value × mH} {s : mG} {a1 : Int32} {a2 : Int32} {τ : (Int32)} (hJ : F_X9_isBetter s a1 a2 = some τ) (hC : (fun τ => r = (some (.int τ), (SH, s))) τ) : Rn N xs (d + 2) me124 0 [some (.ref 83), some (.int a1), some (.int a2), none] [] (SH, s) r := by
  unfold F_X9_isBetter at hJ
  refine Rn_sq srt124 0 2 (pc' := 2) (ls' := [some (.ref 83), some (.int a1), some (.int a2), none]) (st' := [(.int a1), (.ref 83)]) (h1 := (SH, s)) rfl ?_
  obtain ⟨v2, h1, hJ⟩ := m_b1 hJ
  refine Rn_call srt124 2 rfl rfl rfl ⟨Nat.le_of_ble_eq_true rfl, Nat.le_of_ble_eq_true rfl, rfl, Nat.le_of_ble_eq_true rfl⟩ (k_X9_worthOf (d) h1) (show Rn N xs (d + 2) me124 5 [some (.ref 83), some (.int a1), some (.int a2), none] [(.int v2)] (SH, s) r from ?_)
  refine Rn_sq srt124 3 2 (pc' := 7) (ls' := [some (.ref 83), some (.int a1), some (.int a2), none]) (st' := [(.int a2), (.ref 83), (.int v2)]) (h1 := (SH, s)) rfl ?_
  obtain ⟨v4, h3, hJ⟩ := m_b1 hJ
  refine Rn_call srt124 5 rfl rfl rfl ⟨Nat.le_of_ble_eq_true rfl, Nat.le_of_ble_eq_true rfl, rfl, Nat.le_of_ble_eq_true rfl⟩ (k_X9_worthOf (d) h3) (show Rn N xs (d + 2) me124 10 [some (.ref 83), some (.int a1), some (.int a2), none] [(.int v4), (.int v2)] (SH, s) r from ?_)
  refine Rn_sq srt124 6 4 (pc' := (if 0 < (v2 - v4) then 31 else 16)) (ls' := [some (.ref 83), some (.int a1), some (.int a2), some (.int (v2 - v4))]) (st' := []) (h1 := (SH, s)) rfl (Rn_if (fun h5 => ?_) (fun h5 => ?_))
  · replace hJ := m_ifp h5 hJ
    exact Rn_weaken (a := [none, none, none, none]) (b := [some (.ref 83), some (.int a1), some (.int a2), some (.int (v2 - v4))]) trivial rfl (k_X9_isBetter_31 d hJ hC)
  · replace hJ := m_ifn h5 hJ
    refine Rn_sq srt124 10 2 (pc' := (if (v2 - v4) = 0 then 20 else 35)) (ls' := [some (.ref 83), some (.int a1), some (.int a2), some (.int (v2 - v4))]) (st' := []) (h1 := (SH, s)) rfl (Rn_if (fun h6 => ?_) (fun h6 => ?_))
    · replace hJ := m_ifp h6 hJ
      refine Rn_sq srt124 12 1 (pc' := 21) (ls' := [some (.ref 83), some (.int a1), some (.int a2), some (.int (v2 - v4))]) (st' := [(.int a1)]) (h1 := (SH, s)) rfl ?_
      obtain ⟨v8, h7, hJ⟩ := m_b1 hJ
      refine Rn_call srt124 13 rfl rfl rfl ⟨Nat.le_of_ble_eq_true rfl, Nat.le_of_ble_eq_true rfl, rfl, Nat.le_of_ble_eq_true rfl⟩ (k_J6_bitCount_0f7a4 (d + 1) h7) (show Rn N xs (d + 2) me124 24 [some (.ref 83), some (.int a1), some (.int a2), some (.int (v2 - v4))] [(.int v8)] (SH, s) r from ?_)
      refine Rn_sq srt124 14 1 (pc' := 25) (ls' := [some (.ref 83), some (.int a1), some (.int a2), some (.int (v2 - v4))]) (st' := [(.int a2), (.int v8)]) (h1 := (SH, s)) rfl ?_
      obtain ⟨v10, h9, hJ⟩ := m_b1 hJ
      refine Rn_call srt124 15 rfl rfl rfl ⟨Nat.le_of_ble_eq_true rfl, Nat.le_of_ble_eq_true rfl, rfl, Nat.le_of_ble_eq_true rfl⟩ (k_J6_bitCount_0f7a4 (d + 1) h9) (show Rn N xs (d + 2) me124 28 [some (.ref 83), some (.int a1), some (.int a2), some (.int (v2 - v4))] [(.int v10), (.int v8)] (SH, s) r from ?_)
      refine Rn_sq srt124 16 1 (pc' := (if v10 ≤ v8 then 35 else 31)) (ls' := [some (.ref 83), some (.int a1), some (.int a2), some (.int (v2 - v4))]) (st' := []) (h1 := (SH, s)) rfl (Rn_if (fun h11 => ?_) (fun h11 => ?_))
      · replace hJ := m_ifp h11 hJ
        exact Rn_weaken (a := [none, none, none, none]) (b := [some (.ref 83), some (.int a1), some (.int a2), some (.int (v2 - v4))]) trivial rfl (k_X9_isBetter_35 d hJ hC)
      · replace hJ := m_ifn h11 hJ
        exact Rn_weaken (a := [none, none, none, none]) (b := [some (.ref 83), some (.int a1), some (.int a2), some (.int (v2 - v4))]) trivial rfl (k_X9_isBetter_31 d hJ hC)
    · replace hJ := m_ifn h6 hJ
      exact Rn_weaken (a := [none, none, none, none]) (b := [some (.ref 83), some (.int a1), some (.int a2), some (.int (v2 - v4))]) trivial rfl (k_X9_isBetter_35 d hJ hC)
theorem k_X9_isBetter {N : Nat} {xs : Nat → Int32} (d : Nat) {s : mG} {a1 : Int32} {a2 : Int32} {τ : (Int32)} (hJ : F_X9_isBetter s a1 a2 = some τ) : Rn N xs (d + 2) me124 0 [some (.ref 83), some (.int a1), some (.int a2), none] [] (SH, s) (some (.int τ), (SH, s)) := k_X9_isBetter_r d hJ rfl
/-! IsHeIn$Rounds.minutesDueBy(II)I -/
theorem srt127 : m_srt mc127 = true := by decide +kernel
def C_X9_minutesDueBy_5 (N : Nat) (xs : Nat → Int32) (s : mG) (d : Nat) (r : Option Value × mH) (C : (Int32) → Prop) : ((Int32 × Int32 × Int32 × Int32) ⊕ (Int32)) → Prop
  | .inl v => Rn N xs (d + 1) me127 5 [some (.ref 83), some (.int v.1), some (.int v.2.1), some (.int v.2.2.1), some (.int v.2.2.2), none] [] (SH, s) r
  | .inr a => C a
def F_X9_minutesDueBy_77 (s : mG) (x1 : Int32) (x2 : Int32) (x4 : Int32) (y0 : Int32) (y1 : Int32) : Option ((Int32 × Int32 × Int32 × Int32) ⊕ (Int32)) :=
  some (Sum.inl (x1, x2, (y0 + y1), (x4 + ci 1)))
set_option maxRecDepth 4000 in
theorem k_X9_minutesDueBy_77 {N : Nat} {xs : Nat → Int32} (d : Nat) {r : Option Value × mH} {s : mG} {x1 : Int32} {x2 : Int32} {x4 : Int32} {y0 : Int32} {y1 : Int32} {τ : ((Int32 × Int32 × Int32 × Int32) ⊕ (Int32))} (hJ : F_X9_minutesDueBy_77 s x1 x2 x4 y0 y1 = some τ) (hC : (C_X9_minutesDueBy_5 N xs s d r (fun τ => r = (some (.int τ), (SH, s)))) τ) : Rn N xs (d + 1) me127 77 [some (.ref 83), some (.int x1), some (.int x2), none, some (.int x4), none] [(.int y1), (.int y0)] (SH, s) r := by
  unfold F_X9_minutesDueBy_77 at hJ
  refine Rn_sq srt127 40 4 (pc' := 5) (ls' := [some (.ref 83), some (.int x1), some (.int x2), some (.int (y0 + y1)), some (.int (x4 + ci 1)), none]) (st' := []) (h1 := (SH, s)) rfl ?_
  rw [← Option.some.inj hJ] at hC
  exact hC
def F_X9_minutesDueBy_52 (s : mG) (x1 : Int32) (x2 : Int32) (x3 : Int32) (x4 : Int32) (y0 : Int32) : Option ((Int32 × Int32 × Int32 × Int32) ⊕ (Int32)) :=
  if y0 = 0 then
    F_X9_minutesDueBy_77 s x1 x2 x4 x3 (ci 0)
  else
    b1 (F_X10_at 14 s x4 (ci 1)) fun v8 =>
    F_X9_minutesDueBy_77 s x1 x2 x4 x3 v8
set_option maxRecDepth 4000 in
theorem k_X9_minutesDueBy_52 {N : Nat} {xs : Nat → Int32} (d : Nat) {r : Option Value × mH} {s : mG} {x1 : Int32} {x2 : Int32} {x3 : Int32} {x4 : Int32} {y0 : Int32} {τ : ((Int32 × Int32 × Int32 × Int32) ⊕ (Int32))} (hJ : F_X9_minutesDueBy_52 s x1 x2 x3 x4 y0 = some τ) (hC : (C_X9_minutesDueBy_5 N xs s d r (fun τ => r = (some (.int τ), (SH, s)))) τ) : Rn N xs (d + 1) me127 52 [some (.ref 83), some (.int x1), some (.int x2), some (.int x3), some (.int x4), none] [(.int y0)] (SH, s) r := by
  unfold F_X9_minutesDueBy_52 at hJ
  refine Rn_sq srt127 28 4 (pc' := (if y0 = 0 then 76 else 60)) (ls' := [some (.ref 83), some (.int x1), some (.int x2), some (.int x3), some (.int x4), some (.int y0)]) (st' := [(.int x3)]) (h1 := (SH, s)) rfl (Rn_if (fun h6 => ?_) (fun h6 => ?_))
  · replace hJ := m_ifp h6 hJ
    refine Rn_sq srt127 39 1 (pc' := 77) (ls' := [some (.ref 83), some (.int x1), some (.int x2), some (.int x3), some (.int x4), some (.int y0)]) (st' := [(.int (ci 0)), (.int x3)]) (h1 := (SH, s)) rfl ?_
    exact Rn_weaken (a := [some (.ref 83), some (.int x1), some (.int x2), none, some (.int x4), none]) (b := [some (.ref 83), some (.int x1), some (.int x2), some (.int x3), some (.int x4), some (.int y0)]) (And.intro rfl (And.intro rfl (And.intro rfl (And.intro rfl trivial)))) rfl (k_X9_minutesDueBy_77 d hJ hC)
  · replace hJ := m_ifn h6 hJ
    refine Rn_sq srt127 32 5 (pc' := 70) (ls' := [some (.ref 83), some (.int x1), some (.int x2), some (.int x3), some (.int x4), some (.int y0)]) (st' := [(.int (ci 1)), (.int x4), (.ref 14), (.int x3)]) (h1 := (SH, s)) rfl ?_
    obtain ⟨v8, h7, hJ⟩ := m_b1 hJ
    refine Rn_call srt127 37 rfl rfl rfl ⟨Nat.le_of_ble_eq_true rfl, Nat.le_of_ble_eq_true rfl, rfl, Nat.le_of_ble_eq_true rfl⟩ (k_X10_at 14 (d) isT_14 h7) (show Rn N xs (d + 1) me127 73 [some (.ref 83), some (.int x1), some (.int x2), some (.int x3), some (.int x4), some (.int y0)] [(.int v8), (.int x3)] (SH, s) r from ?_)
    refine Rn_sq srt127 38 1 (pc' := 77) (ls' := [some (.ref 83), some (.int x1), some (.int x2), some (.int x3), some (.int x4), some (.int y0)]) (st' := [(.int v8), (.int x3)]) (h1 := (SH, s)) rfl ?_
    exact Rn_weaken (a := [some (.ref 83), some (.int x1), some (.int x2), none, some (.int x4), none]) (b := [some (.ref 83), some (.int x1), some (.int x2), some (.int x3), some (.int x4), some (.int y0)]) (And.intro rfl (And.intro rfl (And.intro rfl (And.intro rfl trivial)))) rfl (k_X9_minutesDueBy_77 d hJ hC)
def F_X9_minutesDueBy_51 (s : mG) (x1 : Int32) (x2 : Int32) (x3 : Int32) (x4 : Int32) : Option ((Int32 × Int32 × Int32 × Int32) ⊕ (Int32)) :=
  F_X9_minutesDueBy_52 s x1 x2 x3 x4 (ci 0)
set_option maxRecDepth 4000 in
theorem k_X9_minutesDueBy_51 {N : Nat} {xs : Nat → Int32} (d : Nat) {r : Option Value × mH} {s : mG} {x1 : Int32} {x2 : Int32} {x3 : Int32} {x4 : Int32} {τ : ((Int32 × Int32 × Int32 × Int32) ⊕ (Int32))} (hJ : F_X9_minutesDueBy_51 s x1 x2 x3 x4 = some τ) (hC : (C_X9_minutesDueBy_5 N xs s d r (fun τ => r = (some (.int τ), (SH, s)))) τ) : Rn N xs (d + 1) me127 51 [some (.ref 83), some (.int x1), some (.int x2), some (.int x3), some (.int x4), none] [] (SH, s) r := by
  unfold F_X9_minutesDueBy_51 at hJ
  refine Rn_sq srt127 27 1 (pc' := 52) (ls' := [some (.ref 83), some (.int x1), some (.int x2), some (.int x3), some (.int x4), none]) (st' := [(.int (ci 0))]) (h1 := (SH, s)) rfl ?_
  exact (k_X9_minutesDueBy_52 d hJ hC)
def F_X9_minutesDueBy_B5 (s : mG) (x1 : Int32) (x2 : Int32) (x3 : Int32) (x4 : Int32) : Option ((Int32 × Int32 × Int32 × Int32) ⊕ (Int32)) :=
  if (s.1 14 3) ≤ x4 then
    some (Sum.inr x3)
  else
    if ((x1 >>> (x4 &&& 31)) &&& (ci 1)) = (ci 1) then
      b1 (F_X10_at 14 s x4 (ci 2)) fun v4 =>
      if x2 < v4 then
        F_X9_minutesDueBy_51 s x1 x2 x3 x4
      else
        F_X9_minutesDueBy_52 s x1 x2 x3 x4 (ci 1)
    else
      F_X9_minutesDueBy_51 s x1 x2 x3 x4
set_option maxRecDepth 4000 in
theorem k_X9_minutesDueBy_B5 {N : Nat} {xs : Nat → Int32} (d : Nat) {r : Option Value × mH} {s : mG} {x1 : Int32} {x2 : Int32} {x3 : Int32} {x4 : Int32} {τ : ((Int32 × Int32 × Int32 × Int32) ⊕ (Int32))} (hJ : F_X9_minutesDueBy_B5 s x1 x2 x3 x4 = some τ) (hC : (C_X9_minutesDueBy_5 N xs s d r (fun τ => r = (some (.int τ), (SH, s)))) τ) : Rn N xs (d + 1) me127 5 [some (.ref 83), some (.int x1), some (.int x2), some (.int x3), some (.int x4), none] [] (SH, s) r := by
  unfold F_X9_minutesDueBy_B5 at hJ
  refine Rn_sq srt127 4 6 (pc' := (if (s.1 14 3) ≤ x4 then 85 else 20)) (ls' := [some (.ref 83), some (.int x1), some (.int x2), some (.int x3), some (.int x4), none]) (st' := []) (h1 := (SH, s)) rfl (Rn_if (fun h1 => ?_) (fun h1 => ?_))
  · replace hJ := m_ifp h1 hJ
    refine Rn_sq srt127 44 1 (pc' := 86) (ls' := [some (.ref 83), some (.int x1), some (.int x2), some (.int x3), some (.int x4), none]) (st' := [(.int x3)]) (h1 := (SH, s)) rfl ?_
    rw [← Option.some.inj hJ] at hC
    have hC : r = (some (.int x3), (SH, s)) := hC
    subst hC
    exact Rn_ret srt127 45 rfl rfl rfl
  · replace hJ := m_ifn h1 hJ
    refine Rn_sq srt127 10 7 (pc' := (if ((x1 >>> (x4 &&& 31)) &&& (ci 1)) = (ci 1) then 30 else 51)) (ls' := [some (.ref 83), some (.int x1), some (.int x2), some (.int x3), some (.int x4), none]) (st' := []) (h1 := (SH, s)) rfl (Rn_if (fun h2 => ?_) (fun h2 => ?_))
    · replace hJ := m_ifp h2 hJ
      refine Rn_sq srt127 17 5 (pc' := 40) (ls' := [some (.ref 83), some (.int x1), some (.int x2), some (.int x3), some (.int x4), none]) (st' := [(.int (ci 2)), (.int x4), (.ref 14)]) (h1 := (SH, s)) rfl ?_
      obtain ⟨v4, h3, hJ⟩ := m_b1 hJ
      refine Rn_call srt127 22 rfl rfl rfl ⟨Nat.le_of_ble_eq_true rfl, Nat.le_of_ble_eq_true rfl, rfl, Nat.le_of_ble_eq_true rfl⟩ (k_X10_at 14 (d) isT_14 h3) (show Rn N xs (d + 1) me127 43 [some (.ref 83), some (.int x1), some (.int x2), some (.int x3), some (.int x4), none] [(.int v4)] (SH, s) r from ?_)
      refine Rn_sq srt127 23 2 (pc' := (if x2 < v4 then 51 else 47)) (ls' := [some (.ref 83), some (.int x1), some (.int x2), some (.int x3), some (.int x4), none]) (st' := []) (h1 := (SH, s)) rfl (Rn_if (fun h5 => ?_) (fun h5 => ?_))
      · replace hJ := m_ifp h5 hJ
        exact (k_X9_minutesDueBy_51 d hJ hC)
      · replace hJ := m_ifn h5 hJ
        refine Rn_sq srt127 25 2 (pc' := 52) (ls' := [some (.ref 83), some (.int x1), some (.int x2), some (.int x3), some (.int x4), none]) (st' := [(.int (ci 1))]) (h1 := (SH, s)) rfl ?_
        exact (k_X9_minutesDueBy_52 d hJ hC)
    · replace hJ := m_ifn h2 hJ
      exact (k_X9_minutesDueBy_51 d hJ hC)
def F_X9_minutesDueBy_L5 (s : mG) (x1 : Int32) (x2 : Int32) (x3 : Int32) (x4 : Int32) : Option (Int32) := whl (fun (v : (Int32 × Int32 × Int32 × Int32)) => F_X9_minutesDueBy_B5 s v.1 v.2.1 v.2.2.1 v.2.2.2) (x1, x2, x3, x4)
theorem k_X9_minutesDueBy_L5 {N : Nat} {xs : Nat → Int32} (d : Nat) {r : Option Value × mH} {s : mG} {x1 : Int32} {x2 : Int32} {x3 : Int32} {x4 : Int32} {τ : (Int32)} (hJ : F_X9_minutesDueBy_L5 s x1 x2 x3 x4 = some τ) (hC : (fun τ => r = (some (.int τ), (SH, s))) τ) : Rn N xs (d + 1) me127 5 [some (.ref 83), some (.int x1), some (.int x2), some (.int x3), some (.int x4), none] [] (SH, s) r :=
  whl_link (P := fun (v : (Int32 × Int32 × Int32 × Int32)) => Rn N xs (d + 1) me127 5 [some (.ref 83), some (.int v.1), some (.int v.2.1), some (.int v.2.2.1), some (.int v.2.2.2), none] [] (SH, s) r) (C := (C_X9_minutesDueBy_5 N xs s d r (fun τ => r = (some (.int τ), (SH, s))))) (fun v τ h1 h2 => k_X9_minutesDueBy_B5 d h1 h2) (fun _ h => h) (fun _ h => h) _ _ hJ hC
def F_X9_minutesDueBy (s : mG) (a1 : Int32) (a2 : Int32) : Option (Int32) :=
  F_X9_minutesDueBy_L5 s a1 a2 (ci 0) (ci 0)
set_option maxRecDepth 4000 in
theorem k_X9_minutesDueBy_r {N : Nat} {xs : Nat → Int32} (d : Nat) {r : Option Value × mH} {s : mG} {a1 : Int32} {a2 : Int32} {τ : (Int32)} (hJ : F_X9_minutesDueBy s a1 a2 = some τ) (hC : (fun τ => r = (some (.int τ), (SH, s))) τ) : Rn N xs (d + 1) me127 0 [some (.ref 83), some (.int a1), some (.int a2), none, none, none] [] (SH, s) r := by
  unfold F_X9_minutesDueBy at hJ
  refine Rn_sq srt127 0 4 (pc' := 5) (ls' := [some (.ref 83), some (.int a1), some (.int a2), some (.int (ci 0)), some (.int (ci 0)), none]) (st' := []) (h1 := (SH, s)) rfl ?_
  exact (k_X9_minutesDueBy_L5 d hJ hC)
theorem k_X9_minutesDueBy {N : Nat} {xs : Nat → Int32} (d : Nat) {s : mG} {a1 : Int32} {a2 : Int32} {τ : (Int32)} (hJ : F_X9_minutesDueBy s a1 a2 = some τ) : Rn N xs (d + 1) me127 0 [some (.ref 83), some (.int a1), some (.int a2), none, none, none] [] (SH, s) (some (.int τ), (SH, s)) := k_X9_minutesDueBy_r d hJ rfl
/-! IsHeIn$Rounds.canBeDone(I)Z -/
theorem srt126 : m_srt mc126 = true := by decide +kernel
def C_X9_canBeDone_2 (N : Nat) (xs : Nat → Int32) (s : mG) (d : Nat) (r : Option Value × mH) (C : (Int32) → Prop) : ((Int32 × Int32) ⊕ (Int32)) → Prop
  | .inl v => Rn N xs (d + 2) me126 2 [some (.ref 83), some (.int v.1), some (.int v.2), none] [] (SH, s) r
  | .inr a => C a
def F_X9_canBeDone_50 (s : mG) (x1 : Int32) (x2 : Int32) : Option ((Int32 × Int32) ⊕ (Int32)) :=
  some (Sum.inl (x1, (x2 + ci 1)))
set_option maxRecDepth 4000 in
theorem k_X9_canBeDone_50 {N : Nat} {xs : Nat → Int32} (d : Nat) {r : Option Value × mH} {s : mG} {x1 : Int32} {x2 : Int32} {τ : ((Int32 × Int32) ⊕ (Int32))} (hJ : F_X9_canBeDone_50 s x1 x2 = some τ) (hC : (C_X9_canBeDone_2 N xs s d r (fun τ => r = (some (.int τ), (SH, s)))) τ) : Rn N xs (d + 2) me126 50 [some (.ref 83), some (.int x1), some (.int x2), none] [] (SH, s) r := by
  unfold F_X9_canBeDone_50 at hJ
  refine Rn_sq srt126 30 2 (pc' := 2) (ls' := [some (.ref 83), some (.int x1), some (.int (x2 + ci 1)), none]) (st' := []) (h1 := (SH, s)) rfl ?_
  rw [← Option.some.inj hJ] at hC
  exact hC
def F_X9_canBeDone_B2 (s : mG) (x1 : Int32) (x2 : Int32) : Option ((Int32 × Int32) ⊕ (Int32)) :=
  if (s.1 14 3) ≤ x2 then
    some (Sum.inr (ci 1))
  else
    b1 (F_X10_at 14 s x2 (ci 2)) fun v3 =>
    if ((x1 >>> (x2 &&& 31)) &&& (ci 1)) = (ci 1) then
      b1 (F_X9_minutesDueBy s x1 v3) fun v6 =>
      if v6 ≤ v3 then
        F_X9_canBeDone_50 s x1 x2
      else
        some (Sum.inr (ci 0))
    else
      F_X9_canBeDone_50 s x1 x2
set_option maxRecDepth 4000 in
theorem k_X9_canBeDone_B2 {N : Nat} {xs : Nat → Int32} (d : Nat) {r : Option Value × mH} {s : mG} {x1 : Int32} {x2 : Int32} {τ : ((Int32 × Int32) ⊕ (Int32))} (hJ : F_X9_canBeDone_B2 s x1 x2 = some τ) (hC : (C_X9_canBeDone_2 N xs s d r (fun τ => r = (some (.int τ), (SH, s)))) τ) : Rn N xs (d + 2) me126 2 [some (.ref 83), some (.int x1), some (.int x2), none] [] (SH, s) r := by
  unfold F_X9_canBeDone_B2 at hJ
  refine Rn_sq srt126 2 6 (pc' := (if (s.1 14 3) ≤ x2 then 56 else 16)) (ls' := [some (.ref 83), some (.int x1), some (.int x2), none]) (st' := []) (h1 := (SH, s)) rfl (Rn_if (fun h1 => ?_) (fun h1 => ?_))
  · replace hJ := m_ifp h1 hJ
    refine Rn_sq srt126 32 1 (pc' := 57) (ls' := [some (.ref 83), some (.int x1), some (.int x2), none]) (st' := [(.int (ci 1))]) (h1 := (SH, s)) rfl ?_
    rw [← Option.some.inj hJ] at hC
    have hC : r = (some (.int (ci 1)), (SH, s)) := hC
    subst hC
    exact Rn_ret srt126 33 rfl rfl (m_ret_b rfl (by decide))
  · replace hJ := m_ifn h1 hJ
    refine Rn_sq srt126 8 5 (pc' := 25) (ls' := [some (.ref 83), some (.int x1), some (.int x2), none]) (st' := [(.int (ci 2)), (.int x2), (.ref 14)]) (h1 := (SH, s)) rfl ?_
    obtain ⟨v3, h2, hJ⟩ := m_b1 hJ
    refine Rn_call srt126 13 rfl rfl rfl ⟨Nat.le_of_ble_eq_true rfl, Nat.le_of_ble_eq_true rfl, rfl, Nat.le_of_ble_eq_true rfl⟩ (k_X10_at 14 (d + 1) isT_14 h2) (show Rn N xs (d + 2) me126 28 [some (.ref 83), some (.int x1), some (.int x2), none] [(.int v3)] (SH, s) r from ?_)
    refine Rn_sq srt126 14 8 (pc' := (if ((x1 >>> (x2 &&& 31)) &&& (ci 1)) = (ci 1) then 38 else 50)) (ls' := [some (.ref 83), some (.int x1), some (.int x2), some (.int v3)]) (st' := []) (h1 := (SH, s)) rfl (Rn_if (fun h4 => ?_) (fun h4 => ?_))
    · replace hJ := m_ifp h4 hJ
      refine Rn_sq srt126 22 3 (pc' := 41) (ls' := [some (.ref 83), some (.int x1), some (.int x2), some (.int v3)]) (st' := [(.int v3), (.int x1), (.ref 83)]) (h1 := (SH, s)) rfl ?_
      obtain ⟨v6, h5, hJ⟩ := m_b1 hJ
      refine Rn_call srt126 25 rfl rfl rfl ⟨Nat.le_of_ble_eq_true rfl, Nat.le_of_ble_eq_true rfl, rfl, Nat.le_of_ble_eq_true rfl⟩ (k_X9_minutesDueBy (d) h5) (show Rn N xs (d + 2) me126 44 [some (.ref 83), some (.int x1), some (.int x2), some (.int v3)] [(.int v6)] (SH, s) r from ?_)
      refine Rn_sq srt126 26 2 (pc' := (if v6 ≤ v3 then 50 else 48)) (ls' := [some (.ref 83), some (.int x1), some (.int x2), some (.int v3)]) (st' := []) (h1 := (SH, s)) rfl (Rn_if (fun h7 => ?_) (fun h7 => ?_))
      · replace hJ := m_ifp h7 hJ
        exact Rn_weaken (a := [some (.ref 83), some (.int x1), some (.int x2), none]) (b := [some (.ref 83), some (.int x1), some (.int x2), some (.int v3)]) (And.intro rfl (And.intro rfl (And.intro rfl trivial))) rfl (k_X9_canBeDone_50 d hJ hC)
      · replace hJ := m_ifn h7 hJ
        refine Rn_sq srt126 28 1 (pc' := 49) (ls' := [some (.ref 83), some (.int x1), some (.int x2), some (.int v3)]) (st' := [(.int (ci 0))]) (h1 := (SH, s)) rfl ?_
        rw [← Option.some.inj hJ] at hC
        have hC : r = (some (.int (ci 0)), (SH, s)) := hC
        subst hC
        exact Rn_ret srt126 29 rfl rfl (m_ret_b rfl (by decide))
    · replace hJ := m_ifn h4 hJ
      exact Rn_weaken (a := [some (.ref 83), some (.int x1), some (.int x2), none]) (b := [some (.ref 83), some (.int x1), some (.int x2), some (.int v3)]) (And.intro rfl (And.intro rfl (And.intro rfl trivial))) rfl (k_X9_canBeDone_50 d hJ hC)
def F_X9_canBeDone_L2 (s : mG) (x1 : Int32) (x2 : Int32) : Option (Int32) := whl (fun (v : (Int32 × Int32)) => F_X9_canBeDone_B2 s v.1 v.2) (x1, x2)
theorem k_X9_canBeDone_L2 {N : Nat} {xs : Nat → Int32} (d : Nat) {r : Option Value × mH} {s : mG} {x1 : Int32} {x2 : Int32} {τ : (Int32)} (hJ : F_X9_canBeDone_L2 s x1 x2 = some τ) (hC : (fun τ => r = (some (.int τ), (SH, s))) τ) : Rn N xs (d + 2) me126 2 [some (.ref 83), some (.int x1), some (.int x2), none] [] (SH, s) r :=
  whl_link (P := fun (v : (Int32 × Int32)) => Rn N xs (d + 2) me126 2 [some (.ref 83), some (.int v.1), some (.int v.2), none] [] (SH, s) r) (C := (C_X9_canBeDone_2 N xs s d r (fun τ => r = (some (.int τ), (SH, s))))) (fun v τ h1 h2 => k_X9_canBeDone_B2 d h1 h2) (fun _ h => h) (fun _ h => h) _ _ hJ hC
def F_X9_canBeDone (s : mG) (a1 : Int32) : Option (Int32) :=
  F_X9_canBeDone_L2 s a1 (ci 0)
set_option maxRecDepth 4000 in
theorem k_X9_canBeDone_r {N : Nat} {xs : Nat → Int32} (d : Nat) {r : Option Value × mH} {s : mG} {a1 : Int32} {τ : (Int32)} (hJ : F_X9_canBeDone s a1 = some τ) (hC : (fun τ => r = (some (.int τ), (SH, s))) τ) : Rn N xs (d + 2) me126 0 [some (.ref 83), some (.int a1), none, none] [] (SH, s) r := by
  unfold F_X9_canBeDone at hJ
  refine Rn_sq srt126 0 2 (pc' := 2) (ls' := [some (.ref 83), some (.int a1), some (.int (ci 0)), none]) (st' := []) (h1 := (SH, s)) rfl ?_
  exact (k_X9_canBeDone_L2 d hJ hC)
theorem k_X9_canBeDone {N : Nat} {xs : Nat → Int32} (d : Nat) {s : mG} {a1 : Int32} {τ : (Int32)} (hJ : F_X9_canBeDone s a1 = some τ) : Rn N xs (d + 2) me126 0 [some (.ref 83), some (.int a1), none, none] [] (SH, s) (some (.int τ), (SH, s)) := k_X9_canBeDone_r d hJ rfl
/-! IsHeIn$Rounds.bestRooms()I -/
theorem srt123 : m_srt mc123 = true := by decide +kernel
def C_X9_bestRooms_4 (N : Nat) (xs : Nat → Int32) (s : mG) (d : Nat) (r : Option Value × mH) (C : (Int32) → Prop) : ((Int32 × Int32) ⊕ (Int32)) → Prop
  | .inl v => Rn N xs (d + 3) me123 4 [some (.ref 83), some (.int v.1), some (.int v.2)] [] (SH, s) r
  | .inr a => C a
def F_X9_bestRooms_39 (s : mG) (x1 : Int32) (x2 : Int32) : Option ((Int32 × Int32) ⊕ (Int32)) :=
  some (Sum.inl (x1, (x2 + ci 1)))
set_option maxRecDepth 4000 in
theorem k_X9_bestRooms_39 {N : Nat} {xs : Nat → Int32} (d : Nat) {r : Option Value × mH} {s : mG} {x1 : Int32} {x2 : Int32} {τ : ((Int32 × Int32) ⊕ (Int32))} (hJ : F_X9_bestRooms_39 s x1 x2 = some τ) (hC : (C_X9_bestRooms_4 N xs s d r (fun τ => r = (some (.int τ), (SH, s)))) τ) : Rn N xs (d + 3) me123 39 [some (.ref 83), some (.int x1), some (.int x2)] [] (SH, s) r := by
  unfold F_X9_bestRooms_39 at hJ
  refine Rn_sq srt123 23 2 (pc' := 4) (ls' := [some (.ref 83), some (.int x1), some (.int (x2 + ci 1))]) (st' := []) (h1 := (SH, s)) rfl ?_
  rw [← Option.some.inj hJ] at hC
  exact hC
def F_X9_bestRooms_B4 (s : mG) (x1 : Int32) (x2 : Int32) : Option ((Int32 × Int32) ⊕ (Int32)) :=
  if ((ci 1) <<< ((s.1 14 3) &&& 31)) ≤ x2 then
    some (Sum.inr x1)
  else
    b1 (F_X9_canBeDone s x2) fun v3 =>
    if v3 = 0 then
      F_X9_bestRooms_39 s x1 x2
    else
      b1 (F_X9_isBetter s x2 x1) fun v6 =>
      if v6 = 0 then
        F_X9_bestRooms_39 s x1 x2
      else
        F_X9_bestRooms_39 s x2 x2
set_option maxRecDepth 4000 in
theorem k_X9_bestRooms_B4 {N : Nat} {xs : Nat → Int32} (d : Nat) {r : Option Value × mH} {s : mG} {x1 : Int32} {x2 : Int32} {τ : ((Int32 × Int32) ⊕ (Int32))} (hJ : F_X9_bestRooms_B4 s x1 x2 = some τ) (hC : (C_X9_bestRooms_4 N xs s d r (fun τ => r = (some (.int τ), (SH, s)))) τ) : Rn N xs (d + 3) me123 4 [some (.ref 83), some (.int x1), some (.int x2)] [] (SH, s) r := by
  unfold F_X9_bestRooms_B4 at hJ
  refine Rn_sq srt123 4 8 (pc' := (if ((ci 1) <<< ((s.1 14 3) &&& 31)) ≤ x2 then 45 else 20)) (ls' := [some (.ref 83), some (.int x1), some (.int x2)]) (st' := []) (h1 := (SH, s)) rfl (Rn_if (fun h1 => ?_) (fun h1 => ?_))
  · replace hJ := m_ifp h1 hJ
    refine Rn_sq srt123 25 1 (pc' := 46) (ls' := [some (.ref 83), some (.int x1), some (.int x2)]) (st' := [(.int x1)]) (h1 := (SH, s)) rfl ?_
    rw [← Option.some.inj hJ] at hC
    have hC : r = (some (.int x1), (SH, s)) := hC
    subst hC
    exact Rn_ret srt123 26 rfl rfl rfl
  · replace hJ := m_ifn h1 hJ
    refine Rn_sq srt123 12 2 (pc' := 22) (ls' := [some (.ref 83), some (.int x1), some (.int x2)]) (st' := [(.int x2), (.ref 83)]) (h1 := (SH, s)) rfl ?_
    obtain ⟨v3, h2, hJ⟩ := m_b1 hJ
    refine Rn_call srt123 14 rfl rfl rfl ⟨Nat.le_of_ble_eq_true rfl, Nat.le_of_ble_eq_true rfl, rfl, Nat.le_of_ble_eq_true rfl⟩ (k_X9_canBeDone (d) h2) (show Rn N xs (d + 3) me123 25 [some (.ref 83), some (.int x1), some (.int x2)] [(.int v3)] (SH, s) r from ?_)
    refine Rn_sq srt123 15 1 (pc' := (if v3 = 0 then 39 else 28)) (ls' := [some (.ref 83), some (.int x1), some (.int x2)]) (st' := []) (h1 := (SH, s)) rfl (Rn_if (fun h4 => ?_) (fun h4 => ?_))
    · replace hJ := m_ifp h4 hJ
      exact (k_X9_bestRooms_39 d hJ hC)
    · replace hJ := m_ifn h4 hJ
      refine Rn_sq srt123 16 3 (pc' := 31) (ls' := [some (.ref 83), some (.int x1), some (.int x2)]) (st' := [(.int x1), (.int x2), (.ref 83)]) (h1 := (SH, s)) rfl ?_
      obtain ⟨v6, h5, hJ⟩ := m_b1 hJ
      refine Rn_call srt123 19 rfl rfl rfl ⟨Nat.le_of_ble_eq_true rfl, Nat.le_of_ble_eq_true rfl, rfl, Nat.le_of_ble_eq_true rfl⟩ (k_X9_isBetter (d) h5) (show Rn N xs (d + 3) me123 34 [some (.ref 83), some (.int x1), some (.int x2)] [(.int v6)] (SH, s) r from ?_)
      refine Rn_sq srt123 20 1 (pc' := (if v6 = 0 then 39 else 37)) (ls' := [some (.ref 83), some (.int x1), some (.int x2)]) (st' := []) (h1 := (SH, s)) rfl (Rn_if (fun h7 => ?_) (fun h7 => ?_))
      · replace hJ := m_ifp h7 hJ
        exact (k_X9_bestRooms_39 d hJ hC)
      · replace hJ := m_ifn h7 hJ
        refine Rn_sq srt123 21 2 (pc' := 39) (ls' := [some (.ref 83), some (.int x2), some (.int x2)]) (st' := []) (h1 := (SH, s)) rfl ?_
        exact (k_X9_bestRooms_39 d hJ hC)
def F_X9_bestRooms_L4 (s : mG) (x1 : Int32) (x2 : Int32) : Option (Int32) := whl (fun (v : (Int32 × Int32)) => F_X9_bestRooms_B4 s v.1 v.2) (x1, x2)
theorem k_X9_bestRooms_L4 {N : Nat} {xs : Nat → Int32} (d : Nat) {r : Option Value × mH} {s : mG} {x1 : Int32} {x2 : Int32} {τ : (Int32)} (hJ : F_X9_bestRooms_L4 s x1 x2 = some τ) (hC : (fun τ => r = (some (.int τ), (SH, s))) τ) : Rn N xs (d + 3) me123 4 [some (.ref 83), some (.int x1), some (.int x2)] [] (SH, s) r :=
  whl_link (P := fun (v : (Int32 × Int32)) => Rn N xs (d + 3) me123 4 [some (.ref 83), some (.int v.1), some (.int v.2)] [] (SH, s) r) (C := (C_X9_bestRooms_4 N xs s d r (fun τ => r = (some (.int τ), (SH, s))))) (fun v τ h1 h2 => k_X9_bestRooms_B4 d h1 h2) (fun _ h => h) (fun _ h => h) _ _ hJ hC
def F_X9_bestRooms (s : mG) : Option (Int32) :=
  F_X9_bestRooms_L4 s (ci 0) (ci 1)
set_option maxRecDepth 4000 in
theorem k_X9_bestRooms_r {N : Nat} {xs : Nat → Int32} (d : Nat) {r : Option Value × mH} {s : mG} {τ : (Int32)} (hJ : F_X9_bestRooms s = some τ) (hC : (fun τ => r = (some (.int τ), (SH, s))) τ) : Rn N xs (d + 3) me123 0 [some (.ref 83), none, none] [] (SH, s) r := by
  unfold F_X9_bestRooms at hJ
  refine Rn_sq srt123 0 4 (pc' := 4) (ls' := [some (.ref 83), some (.int (ci 0)), some (.int (ci 1))]) (st' := []) (h1 := (SH, s)) rfl ?_
  exact (k_X9_bestRooms_L4 d hJ hC)
theorem k_X9_bestRooms {N : Nat} {xs : Nat → Int32} (d : Nat) {s : mG} {τ : (Int32)} (hJ : F_X9_bestRooms s = some τ) : Rn N xs (d + 3) me123 0 [some (.ref 83), none, none] [] (SH, s) (some (.int τ), (SH, s)) := k_X9_bestRooms_r d hJ rfl
/-! IsHeIn$Rounds.searchOn(IIIIJ)V -/
theorem srt129 : m_srt mc129 = true := by decide +kernel
def C_X9_searchOn_65 (N : Nat) (xs : Nat → Int32) (rec : Int32 → Int32 → Int32 → Int32 → Int64 → mG → Option (mG)) (d : Nat) (r : Option Value × mH) (C : (mG) → Prop) : ((Int32 × Int32 × Int32 × Int32 × Int64 × Int32 × mG) ⊕ (mG)) → Prop
  | .inl v => Rn N xs (d + 1) me129 65 [some (.ref 83), some (.int v.1), some (.int v.2.1), some (.int v.2.2.1), some (.int v.2.2.2.1), some (.long v.2.2.2.2.1), none, some (.int v.2.2.2.2.2.1), none] [] (SH, v.2.2.2.2.2.2) r
  | .inr a => C a
def F_X9_searchOn_148 (rec : Int32 → Int32 → Int32 → Int32 → Int64 → mG → Option (mG)) (x1 : Int32) (x2 : Int32) (x3 : Int32) (x4 : Int32) (x5 : Int64) (x7 : Int32) (s : mG) : Option ((Int32 × Int32 × Int32 × Int32 × Int64 × Int32 × mG) ⊕ (mG)) :=
  some (Sum.inl (x1, x2, x3, x4, x5, (x7 + ci 1), s))
set_option maxRecDepth 4000 in
theorem k_X9_searchOn_148 {N : Nat} {xs : Nat → Int32} (rec : Int32 → Int32 → Int32 → Int32 → Int64 → mG → Option (mG)) (d : Nat) (hrec : ∀ (b0 : Int32) (b1 : Int32) (b2 : Int32) (b3 : Int32) (b4 : Int64) (s : mG) (τ : mG), rec b0 b1 b2 b3 b4 s = some τ → Rn N xs d me129 0 [some (.ref 83), some (.int b0), some (.int b1), some (.int b2), some (.int b3), some (.long b4), none, none, none] [] (SH, s) (none, (SH, τ))) {r : Option Value × mH} {s : mG} {x1 : Int32} {x2 : Int32} {x3 : Int32} {x4 : Int32} {x5 : Int64} {x7 : Int32} {τ : ((Int32 × Int32 × Int32 × Int32 × Int64 × Int32 × mG) ⊕ (mG))} (hJ : F_X9_searchOn_148 rec x1 x2 x3 x4 x5 x7 s = some τ) (hC : (C_X9_searchOn_65 N xs rec d r (fun τ => r = (none, (SH, τ)))) τ) : Rn N xs (d + 1) me129 148 [some (.ref 83), some (.int x1), some (.int x2), some (.int x3), some (.int x4), some (.long x5), none, some (.int x7), none] [] (SH, s) r := by
  unfold F_X9_searchOn_148 at hJ
  refine Rn_sq srt129 80 2 (pc' := 65) (ls' := [some (.ref 83), some (.int x1), some (.int x2), some (.int x3), some (.int x4), some (.long x5), none, some (.int (x7 + ci 1)), none]) (st' := []) (h1 := (SH, s)) rfl ?_
  rw [← Option.some.inj hJ] at hC
  exact hC
def F_X9_searchOn_B65 (rec : Int32 → Int32 → Int32 → Int32 → Int64 → mG → Option (mG)) (x1 : Int32) (x2 : Int32) (x3 : Int32) (x4 : Int32) (x5 : Int64) (x7 : Int32) (s : mG) : Option ((Int32 × Int32 × Int32 × Int32 × Int64 × Int32 × mG) ⊕ (mG)) :=
  if (ci 4) ≤ x7 then
    some (Sum.inr s)
  else
    if (ci 4) ≤ x4 then
      some (Sum.inr s)
    else
      let v4 : Int32 := ((x1 - (ci 3)) - ((ci 2) * (iabs (x7 - x2))))
      if ((x3 >>> (x7 &&& 31)) &&& (ci 1)) = 0 then
        if v4 < 0 then
          F_X9_searchOn_148 rec x1 x2 x3 x4 x5 x7 s
        else
          b1 (F_X11_put 86 x4 x7 s) fun s8 =>
          b1 (F_X11_cell 85 s8 x7) fun v10 =>
          b1 (rec v4 x7 (x3 ||| ((ci 1) <<< (x7 &&& 31))) (x4 + (ci 1)) (x5 + v10.toInt64) s8) fun s12 =>
          F_X9_searchOn_148 rec x1 x2 x3 x4 x5 x7 s12
      else
        F_X9_searchOn_148 rec x1 x2 x3 x4 x5 x7 s
set_option maxRecDepth 4000 in
theorem k_X9_searchOn_B65 {N : Nat} {xs : Nat → Int32} (rec : Int32 → Int32 → Int32 → Int32 → Int64 → mG → Option (mG)) (d : Nat) (hrec : ∀ (b0 : Int32) (b1 : Int32) (b2 : Int32) (b3 : Int32) (b4 : Int64) (s : mG) (τ : mG), rec b0 b1 b2 b3 b4 s = some τ → Rn N xs d me129 0 [some (.ref 83), some (.int b0), some (.int b1), some (.int b2), some (.int b3), some (.long b4), none, none, none] [] (SH, s) (none, (SH, τ))) {r : Option Value × mH} {s : mG} {x1 : Int32} {x2 : Int32} {x3 : Int32} {x4 : Int32} {x5 : Int64} {x7 : Int32} {τ : ((Int32 × Int32 × Int32 × Int32 × Int64 × Int32 × mG) ⊕ (mG))} (hJ : F_X9_searchOn_B65 rec x1 x2 x3 x4 x5 x7 s = some τ) (hC : (C_X9_searchOn_65 N xs rec d r (fun τ => r = (none, (SH, τ)))) τ) : Rn N xs (d + 1) me129 65 [some (.ref 83), some (.int x1), some (.int x2), some (.int x3), some (.int x4), some (.long x5), none, some (.int x7), none] [] (SH, s) r := by
  unfold F_X9_searchOn_B65 at hJ
  refine Rn_sq srt129 31 3 (pc' := (if (ci 4) ≤ x7 then 154 else 71)) (ls' := [some (.ref 83), some (.int x1), some (.int x2), some (.int x3), some (.int x4), some (.long x5), none, some (.int x7), none]) (st' := []) (h1 := (SH, s)) rfl (Rn_if (fun h2 => ?_) (fun h2 => ?_))
  · replace hJ := m_ifp h2 hJ
    rw [← Option.some.inj hJ] at hC
    have hC : r = (none, (SH, s)) := hC
    subst hC
    exact Rn_ret srt129 82 rfl rfl rfl
  · replace hJ := m_ifn h2 hJ
    refine Rn_sq srt129 34 3 (pc' := (if (ci 4) ≤ x4 then 154 else 77)) (ls' := [some (.ref 83), some (.int x1), some (.int x2), some (.int x3), some (.int x4), some (.long x5), none, some (.int x7), none]) (st' := []) (h1 := (SH, s)) rfl (Rn_if (fun h3 => ?_) (fun h3 => ?_))
    · replace hJ := m_ifp h3 hJ
      rw [← Option.some.inj hJ] at hC
      have hC : r = (none, (SH, s)) := hC
      subst hC
      exact Rn_ret srt129 82 rfl rfl rfl
    · replace hJ := m_ifn h3 hJ
      extract_lets +onlyGivenNames v4 at hJ
      refine Rn_sq srt129 37 17 (pc' := (if ((x3 >>> (x7 &&& 31)) &&& (ci 1)) = 0 then 101 else 148)) (ls' := [some (.ref 83), some (.int x1), some (.int x2), some (.int x3), some (.int x4), some (.long x5), none, some (.int x7), some (.int v4)]) (st' := []) (h1 := (SH, s)) rfl (Rn_if (fun h5 => ?_) (fun h5 => ?_))
      · replace hJ := m_ifp h5 hJ
        refine Rn_sq srt129 54 2 (pc' := (if v4 < 0 then 148 else 106)) (ls' := [some (.ref 83), some (.int x1), some (.int x2), some (.int x3), some (.int x4), some (.long x5), none, some (.int x7), some (.int v4)]) (st' := []) (h1 := (SH, s)) rfl (Rn_if (fun h6 => ?_) (fun h6 => ?_))
        · replace hJ := m_ifp h6 hJ
          exact Rn_weaken (a := [some (.ref 83), some (.int x1), some (.int x2), some (.int x3), some (.int x4), some (.long x5), none, some (.int x7), none]) (b := [some (.ref 83), some (.int x1), some (.int x2), some (.int x3), some (.int x4), some (.long x5), none, some (.int x7), some (.int v4)]) (And.intro rfl (And.intro rfl (And.intro rfl (And.intro rfl (And.intro rfl (And.intro rfl (And.intro rfl trivial))))))) rfl (k_X9_searchOn_148 rec d hrec hJ hC)
        · replace hJ := m_ifn h6 hJ
          refine Rn_sq srt129 56 4 (pc' := 114) (ls' := [some (.ref 83), some (.int x1), some (.int x2), some (.int x3), some (.int x4), some (.long x5), none, some (.int x7), some (.int v4)]) (st' := [(.int x7), (.int x4), (.ref 86)]) (h1 := (SH, s)) rfl ?_
          obtain ⟨s8, h7, hJ⟩ := m_b1 hJ
          refine Rn_call srt129 60 rfl rfl rfl ⟨Nat.le_of_ble_eq_true rfl, Nat.le_of_ble_eq_true rfl, rfl, Nat.le_of_ble_eq_true rfl⟩ (k_X11_put 86 (d) h7) (show Rn N xs (d + 1) me129 117 [some (.ref 83), some (.int x1), some (.int x2), some (.int x3), some (.int x4), some (.long x5), none, some (.int x7), some (.int v4)] [] (SH, s8) r from ?_)
          refine Rn_sq srt129 61 15 (pc' := 140) (ls' := [some (.ref 83), some (.int x1), some (.int x2), some (.int x3), some (.int x4), some (.long x5), none, some (.int x7), some (.int v4)]) (st' := [(.int x7), (.ref 85), (.long x5), (.int (x4 + (ci 1))), (.int (x3 ||| ((ci 1) <<< (x7 &&& 31)))), (.int x7), (.int v4), (.ref 83)]) (h1 := (SH, s8)) rfl ?_
          obtain ⟨v10, h9, hJ⟩ := m_b1 hJ
          refine Rn_call srt129 76 rfl rfl rfl ⟨Nat.le_of_ble_eq_true rfl, Nat.le_of_ble_eq_true rfl, rfl, Nat.le_of_ble_eq_true rfl⟩ (k_X11_cell 85 (d) h9) (show Rn N xs (d + 1) me129 143 [some (.ref 83), some (.int x1), some (.int x2), some (.int x3), some (.int x4), some (.long x5), none, some (.int x7), some (.int v4)] [(.int v10), (.long x5), (.int (x4 + (ci 1))), (.int (x3 ||| ((ci 1) <<< (x7 &&& 31)))), (.int x7), (.int v4), (.ref 83)] (SH, s8) r from ?_)
          refine Rn_sq srt129 77 2 (pc' := 145) (ls' := [some (.ref 83), some (.int x1), some (.int x2), some (.int x3), some (.int x4), some (.long x5), none, some (.int x7), some (.int v4)]) (st' := [(.long (x5 + v10.toInt64)), (.int (x4 + (ci 1))), (.int (x3 ||| ((ci 1) <<< (x7 &&& 31)))), (.int x7), (.int v4), (.ref 83)]) (h1 := (SH, s8)) rfl ?_
          obtain ⟨s12, h11, hJ⟩ := m_b1 hJ
          refine Rn_call srt129 79 rfl rfl rfl ⟨Nat.le_of_ble_eq_true rfl, Nat.le_of_ble_eq_true rfl, rfl, Nat.le_of_ble_eq_true rfl⟩ (Rn_dep 0 (hrec _ _ _ _ _ _ _ h11)) (show Rn N xs (d + 1) me129 148 [some (.ref 83), some (.int x1), some (.int x2), some (.int x3), some (.int x4), some (.long x5), none, some (.int x7), some (.int v4)] [] (SH, s12) r from ?_)
          exact Rn_weaken (a := [some (.ref 83), some (.int x1), some (.int x2), some (.int x3), some (.int x4), some (.long x5), none, some (.int x7), none]) (b := [some (.ref 83), some (.int x1), some (.int x2), some (.int x3), some (.int x4), some (.long x5), none, some (.int x7), some (.int v4)]) (And.intro rfl (And.intro rfl (And.intro rfl (And.intro rfl (And.intro rfl (And.intro rfl (And.intro rfl trivial))))))) rfl (k_X9_searchOn_148 rec d hrec hJ hC)
      · replace hJ := m_ifn h5 hJ
        exact Rn_weaken (a := [some (.ref 83), some (.int x1), some (.int x2), some (.int x3), some (.int x4), some (.long x5), none, some (.int x7), none]) (b := [some (.ref 83), some (.int x1), some (.int x2), some (.int x3), some (.int x4), some (.long x5), none, some (.int x7), some (.int v4)]) (And.intro rfl (And.intro rfl (And.intro rfl (And.intro rfl (And.intro rfl (And.intro rfl (And.intro rfl trivial))))))) rfl (k_X9_searchOn_148 rec d hrec hJ hC)
def F_X9_searchOn_L65 (rec : Int32 → Int32 → Int32 → Int32 → Int64 → mG → Option (mG)) (x1 : Int32) (x2 : Int32) (x3 : Int32) (x4 : Int32) (x5 : Int64) (x7 : Int32) (s : mG) : Option (mG) := whl (fun (v : (Int32 × Int32 × Int32 × Int32 × Int64 × Int32 × mG)) => F_X9_searchOn_B65 rec v.1 v.2.1 v.2.2.1 v.2.2.2.1 v.2.2.2.2.1 v.2.2.2.2.2.1 v.2.2.2.2.2.2) (x1, x2, x3, x4, x5, x7, s)
theorem k_X9_searchOn_L65 {N : Nat} {xs : Nat → Int32} (rec : Int32 → Int32 → Int32 → Int32 → Int64 → mG → Option (mG)) (d : Nat) (hrec : ∀ (b0 : Int32) (b1 : Int32) (b2 : Int32) (b3 : Int32) (b4 : Int64) (s : mG) (τ : mG), rec b0 b1 b2 b3 b4 s = some τ → Rn N xs d me129 0 [some (.ref 83), some (.int b0), some (.int b1), some (.int b2), some (.int b3), some (.long b4), none, none, none] [] (SH, s) (none, (SH, τ))) {r : Option Value × mH} {s : mG} {x1 : Int32} {x2 : Int32} {x3 : Int32} {x4 : Int32} {x5 : Int64} {x7 : Int32} {τ : (mG)} (hJ : F_X9_searchOn_L65 rec x1 x2 x3 x4 x5 x7 s = some τ) (hC : (fun τ => r = (none, (SH, τ))) τ) : Rn N xs (d + 1) me129 65 [some (.ref 83), some (.int x1), some (.int x2), some (.int x3), some (.int x4), some (.long x5), none, some (.int x7), none] [] (SH, s) r :=
  whl_link (P := fun (v : (Int32 × Int32 × Int32 × Int32 × Int64 × Int32 × mG)) => Rn N xs (d + 1) me129 65 [some (.ref 83), some (.int v.1), some (.int v.2.1), some (.int v.2.2.1), some (.int v.2.2.2.1), some (.long v.2.2.2.2.1), none, some (.int v.2.2.2.2.2.1), none] [] (SH, v.2.2.2.2.2.2) r) (C := (C_X9_searchOn_65 N xs rec d r (fun τ => r = (none, (SH, τ))))) (fun v τ h1 h2 => k_X9_searchOn_B65 rec d hrec h1 h2) (fun _ h => h) (fun _ h => h) _ _ hJ hC
def F_X9_searchOn_62 (rec : Int32 → Int32 → Int32 → Int32 → Int64 → mG → Option (mG)) (x1 : Int32) (x2 : Int32) (x3 : Int32) (x4 : Int32) (x5 : Int64) (s : mG) : Option (mG) :=
  F_X9_searchOn_L65 rec x1 x2 x3 x4 x5 (ci 0) s
set_option maxRecDepth 4000 in
theorem k_X9_searchOn_62 {N : Nat} {xs : Nat → Int32} (rec : Int32 → Int32 → Int32 → Int32 → Int64 → mG → Option (mG)) (d : Nat) (hrec : ∀ (b0 : Int32) (b1 : Int32) (b2 : Int32) (b3 : Int32) (b4 : Int64) (s : mG) (τ : mG), rec b0 b1 b2 b3 b4 s = some τ → Rn N xs d me129 0 [some (.ref 83), some (.int b0), some (.int b1), some (.int b2), some (.int b3), some (.long b4), none, none, none] [] (SH, s) (none, (SH, τ))) {r : Option Value × mH} {s : mG} {x1 : Int32} {x2 : Int32} {x3 : Int32} {x4 : Int32} {x5 : Int64} {τ : (mG)} (hJ : F_X9_searchOn_62 rec x1 x2 x3 x4 x5 s = some τ) (hC : (fun τ => r = (none, (SH, τ))) τ) : Rn N xs (d + 1) me129 62 [some (.ref 83), some (.int x1), some (.int x2), some (.int x3), some (.int x4), some (.long x5), none, none, none] [] (SH, s) r := by
  unfold F_X9_searchOn_62 at hJ
  refine Rn_sq srt129 29 2 (pc' := 65) (ls' := [some (.ref 83), some (.int x1), some (.int x2), some (.int x3), some (.int x4), some (.long x5), none, some (.int (ci 0)), none]) (st' := []) (h1 := (SH, s)) rfl ?_
  exact (k_X9_searchOn_L65 rec d hrec hJ hC)
def C_X9_searchOn_25 (N : Nat) (xs : Nat → Int32) (rec : Int32 → Int32 → Int32 → Int32 → Int64 → mG → Option (mG)) (d : Nat) (r : Option Value × mH) (C : (mG) → Prop) : ((Int32 × Int32 × Int32 × Int32 × Int64 × Int32 × mG) ⊕ (mG)) → Prop
  | .inl v => Rn N xs (d + 1) me129 25 [some (.ref 83), some (.int v.1), some (.int v.2.1), some (.int v.2.2.1), some (.int v.2.2.2.1), some (.long v.2.2.2.2.1), none, some (.int v.2.2.2.2.2.1), none] [] (SH, v.2.2.2.2.2.2) r
  | .inr a => C a
def F_X9_searchOn_B25 (rec : Int32 → Int32 → Int32 → Int32 → Int64 → mG → Option (mG)) (x1 : Int32) (x2 : Int32) (x3 : Int32) (x4 : Int32) (x5 : Int64) (x7 : Int32) (s : mG) : Option ((Int32 × Int32 × Int32 × Int32 × Int64 × Int32 × mG) ⊕ (mG)) :=
  if x4 ≤ x7 then
    b1 (F_X9_searchOn_62 rec x1 x2 x3 x4 x5 s) fun τ => some (Sum.inr τ)
  else
    if (ci 4) ≤ x7 then
      b1 (F_X9_searchOn_62 rec x1 x2 x3 x4 x5 s) fun τ => some (Sum.inr τ)
    else
      b1 (F_X11_cell 86 s x7) fun v18 =>
      b1 (F_X11_put 87 x7 v18 s) fun s20 =>
      some (Sum.inl (x1, x2, x3, x4, x5, (x7 + ci 1), s20))
set_option maxRecDepth 4000 in
theorem k_X9_searchOn_B25 {N : Nat} {xs : Nat → Int32} (rec : Int32 → Int32 → Int32 → Int32 → Int64 → mG → Option (mG)) (d : Nat) (hrec : ∀ (b0 : Int32) (b1 : Int32) (b2 : Int32) (b3 : Int32) (b4 : Int64) (s : mG) (τ : mG), rec b0 b1 b2 b3 b4 s = some τ → Rn N xs d me129 0 [some (.ref 83), some (.int b0), some (.int b1), some (.int b2), some (.int b3), some (.long b4), none, none, none] [] (SH, s) (none, (SH, τ))) {r : Option Value × mH} {s : mG} {x1 : Int32} {x2 : Int32} {x3 : Int32} {x4 : Int32} {x5 : Int64} {x7 : Int32} {τ : ((Int32 × Int32 × Int32 × Int32 × Int64 × Int32 × mG) ⊕ (mG))} (hJ : F_X9_searchOn_B25 rec x1 x2 x3 x4 x5 x7 s = some τ) (hC : (C_X9_searchOn_25 N xs rec d r (fun τ => r = (none, (SH, τ)))) τ) : Rn N xs (d + 1) me129 25 [some (.ref 83), some (.int x1), some (.int x2), some (.int x3), some (.int x4), some (.long x5), none, some (.int x7), none] [] (SH, s) r := by
  unfold F_X9_searchOn_B25 at hJ
  refine Rn_sq srt129 13 3 (pc' := (if x4 ≤ x7 then 62 else 32)) (ls' := [some (.ref 83), some (.int x1), some (.int x2), some (.int x3), some (.int x4), some (.long x5), none, some (.int x7), none]) (st' := []) (h1 := (SH, s)) rfl (Rn_if (fun h15 => ?_) (fun h15 => ?_))
  · replace hJ := m_ifp h15 hJ
    obtain ⟨τ1, hJ1, hJ⟩ := m_b1 hJ
    rw [← Option.some.inj hJ] at hC
    exact Rn_weaken (a := [some (.ref 83), some (.int x1), some (.int x2), some (.int x3), some (.int x4), some (.long x5), none, none, none]) (b := [some (.ref 83), some (.int x1), some (.int x2), some (.int x3), some (.int x4), some (.long x5), none, some (.int x7), none]) (And.intro rfl (And.intro rfl (And.intro rfl (And.intro rfl (And.intro rfl (And.intro rfl trivial)))))) rfl (k_X9_searchOn_62 rec d hrec hJ1 hC)
  · replace hJ := m_ifn h15 hJ
    refine Rn_sq srt129 16 3 (pc' := (if (ci 4) ≤ x7 then 62 else 38)) (ls' := [some (.ref 83), some (.int x1), some (.int x2), some (.int x3), some (.int x4), some (.long x5), none, some (.int x7), none]) (st' := []) (h1 := (SH, s)) rfl (Rn_if (fun h16 => ?_) (fun h16 => ?_))
    · replace hJ := m_ifp h16 hJ
      obtain ⟨τ1, hJ1, hJ⟩ := m_b1 hJ
      rw [← Option.some.inj hJ] at hC
      exact Rn_weaken (a := [some (.ref 83), some (.int x1), some (.int x2), some (.int x3), some (.int x4), some (.long x5), none, none, none]) (b := [some (.ref 83), some (.int x1), some (.int x2), some (.int x3), some (.int x4), some (.long x5), none, some (.int x7), none]) (And.intro rfl (And.intro rfl (And.intro rfl (And.intro rfl (And.intro rfl (And.intro rfl trivial)))))) rfl (k_X9_searchOn_62 rec d hrec hJ1 hC)
    · replace hJ := m_ifn h16 hJ
      refine Rn_sq srt129 19 6 (pc' := 50) (ls' := [some (.ref 83), some (.int x1), some (.int x2), some (.int x3), some (.int x4), some (.long x5), none, some (.int x7), none]) (st' := [(.int x7), (.ref 86), (.int x7), (.ref 87)]) (h1 := (SH, s)) rfl ?_
      obtain ⟨v18, h17, hJ⟩ := m_b1 hJ
      refine Rn_call srt129 25 rfl rfl rfl ⟨Nat.le_of_ble_eq_true rfl, Nat.le_of_ble_eq_true rfl, rfl, Nat.le_of_ble_eq_true rfl⟩ (k_X11_cell 86 (d) h17) (show Rn N xs (d + 1) me129 53 [some (.ref 83), some (.int x1), some (.int x2), some (.int x3), some (.int x4), some (.long x5), none, some (.int x7), none] [(.int v18), (.int x7), (.ref 87)] (SH, s) r from ?_)
      obtain ⟨s20, h19, hJ⟩ := m_b1 hJ
      refine Rn_call srt129 26 rfl rfl rfl ⟨Nat.le_of_ble_eq_true rfl, Nat.le_of_ble_eq_true rfl, rfl, Nat.le_of_ble_eq_true rfl⟩ (k_X11_put 87 (d) h19) (show Rn N xs (d + 1) me129 56 [some (.ref 83), some (.int x1), some (.int x2), some (.int x3), some (.int x4), some (.long x5), none, some (.int x7), none] [] (SH, s20) r from ?_)
      refine Rn_sq srt129 27 2 (pc' := 25) (ls' := [some (.ref 83), some (.int x1), some (.int x2), some (.int x3), some (.int x4), some (.long x5), none, some (.int (x7 + ci 1)), none]) (st' := []) (h1 := (SH, s20)) rfl ?_
      rw [← Option.some.inj hJ] at hC
      exact hC
def F_X9_searchOn_L25 (rec : Int32 → Int32 → Int32 → Int32 → Int64 → mG → Option (mG)) (x1 : Int32) (x2 : Int32) (x3 : Int32) (x4 : Int32) (x5 : Int64) (x7 : Int32) (s : mG) : Option (mG) := whl (fun (v : (Int32 × Int32 × Int32 × Int32 × Int64 × Int32 × mG)) => F_X9_searchOn_B25 rec v.1 v.2.1 v.2.2.1 v.2.2.2.1 v.2.2.2.2.1 v.2.2.2.2.2.1 v.2.2.2.2.2.2) (x1, x2, x3, x4, x5, x7, s)
theorem k_X9_searchOn_L25 {N : Nat} {xs : Nat → Int32} (rec : Int32 → Int32 → Int32 → Int32 → Int64 → mG → Option (mG)) (d : Nat) (hrec : ∀ (b0 : Int32) (b1 : Int32) (b2 : Int32) (b3 : Int32) (b4 : Int64) (s : mG) (τ : mG), rec b0 b1 b2 b3 b4 s = some τ → Rn N xs d me129 0 [some (.ref 83), some (.int b0), some (.int b1), some (.int b2), some (.int b3), some (.long b4), none, none, none] [] (SH, s) (none, (SH, τ))) {r : Option Value × mH} {s : mG} {x1 : Int32} {x2 : Int32} {x3 : Int32} {x4 : Int32} {x5 : Int64} {x7 : Int32} {τ : (mG)} (hJ : F_X9_searchOn_L25 rec x1 x2 x3 x4 x5 x7 s = some τ) (hC : (fun τ => r = (none, (SH, τ))) τ) : Rn N xs (d + 1) me129 25 [some (.ref 83), some (.int x1), some (.int x2), some (.int x3), some (.int x4), some (.long x5), none, some (.int x7), none] [] (SH, s) r :=
  whl_link (P := fun (v : (Int32 × Int32 × Int32 × Int32 × Int64 × Int32 × mG)) => Rn N xs (d + 1) me129 25 [some (.ref 83), some (.int v.1), some (.int v.2.1), some (.int v.2.2.1), some (.int v.2.2.2.1), some (.long v.2.2.2.2.1), none, some (.int v.2.2.2.2.2.1), none] [] (SH, v.2.2.2.2.2.2) r) (C := (C_X9_searchOn_25 N xs rec d r (fun τ => r = (none, (SH, τ))))) (fun v τ h1 h2 => k_X9_searchOn_B25 rec d hrec h1 h2) (fun _ h => h) (fun _ h => h) _ _ hJ hC
def F_X9_searchOn (rec : Int32 → Int32 → Int32 → Int32 → Int64 → mG → Option (mG)) (a1 : Int32) (a2 : Int32) (a3 : Int32) (a4 : Int32) (a5 : Int64) (s : mG) : Option (mG) :=
  if (lg_cmp a5 (s.2 83 7)) ≤ 0 then
    F_X9_searchOn_62 rec a1 a2 a3 a4 a5 s
  else
    let s13 : mG := (s.1, muL s.2 83 7 a5)
    let s14 : mG := (mu s13.1 83 6 a4, s13.2)
    F_X9_searchOn_L25 rec a1 a2 a3 a4 a5 (ci 0) s14
set_option maxRecDepth 4000 in
theorem k_X9_searchOn_r {N : Nat} {xs : Nat → Int32} (rec : Int32 → Int32 → Int32 → Int32 → Int64 → mG → Option (mG)) (d : Nat) (hrec : ∀ (b0 : Int32) (b1 : Int32) (b2 : Int32) (b3 : Int32) (b4 : Int64) (s : mG) (τ : mG), rec b0 b1 b2 b3 b4 s = some τ → Rn N xs d me129 0 [some (.ref 83), some (.int b0), some (.int b1), some (.int b2), some (.int b3), some (.long b4), none, none, none] [] (SH, s) (none, (SH, τ))) {r : Option Value × mH} {s : mG} {a1 : Int32} {a2 : Int32} {a3 : Int32} {a4 : Int32} {a5 : Int64} {τ : (mG)} (hJ : F_X9_searchOn rec a1 a2 a3 a4 a5 s = some τ) (hC : (fun τ => r = (none, (SH, τ))) τ) : Rn N xs (d + 1) me129 0 [some (.ref 83), some (.int a1), some (.int a2), some (.int a3), some (.int a4), some (.long a5), none, none, none] [] (SH, s) r := by
  unfold F_X9_searchOn at hJ
  refine Rn_sq srt129 0 5 (pc' := (if (lg_cmp a5 (s.2 83 7)) ≤ 0 then 62 else 10)) (ls' := [some (.ref 83), some (.int a1), some (.int a2), some (.int a3), some (.int a4), some (.long a5), none, none, none]) (st' := []) (h1 := (SH, s)) rfl (Rn_if (fun h1 => ?_) (fun h1 => ?_))
  · replace hJ := m_ifp h1 hJ
    exact (k_X9_searchOn_62 rec d hrec hJ hC)
  · replace hJ := m_ifn h1 hJ
    extract_lets +onlyGivenNames s13 at hJ
    extract_lets +onlyGivenNames s14 at hJ
    refine Rn_sq srt129 5 8 (pc' := 25) (ls' := [some (.ref 83), some (.int a1), some (.int a2), some (.int a3), some (.int a4), some (.long a5), none, some (.int (ci 0)), none]) (st' := []) (h1 := (SH, s14)) rfl ?_
    exact (k_X9_searchOn_L25 rec d hrec hJ hC)
theorem k_X9_searchOn {N : Nat} {xs : Nat → Int32} (rec : Int32 → Int32 → Int32 → Int32 → Int64 → mG → Option (mG)) (d : Nat) (hrec : ∀ (b0 : Int32) (b1 : Int32) (b2 : Int32) (b3 : Int32) (b4 : Int64) (s : mG) (τ : mG), rec b0 b1 b2 b3 b4 s = some τ → Rn N xs d me129 0 [some (.ref 83), some (.int b0), some (.int b1), some (.int b2), some (.int b3), some (.long b4), none, none, none] [] (SH, s) (none, (SH, τ))) {s : mG} {a1 : Int32} {a2 : Int32} {a3 : Int32} {a4 : Int32} {a5 : Int64} {τ : (mG)} (hJ : F_X9_searchOn rec a1 a2 a3 a4 a5 s = some τ) : Rn N xs (d + 1) me129 0 [some (.ref 83), some (.int a1), some (.int a2), some (.int a3), some (.int a4), some (.long a5), none, none, none] [] (SH, s) (none, (SH, τ)) := k_X9_searchOn_r rec d hrec hJ rfl
def Q_X9_searchOn : Nat → Int32 → Int32 → Int32 → Int32 → Int64 → mG → Option (mG)
  | 0 => fun _ _ _ _ _ _ => none
  | n + 1 => F_X9_searchOn (Q_X9_searchOn n)
theorem kQ_X9_searchOn {N : Nat} {xs : Nat → Int32} (d : Nat) : ∀ (n : Nat) (b0 : Int32) (b1 : Int32) (b2 : Int32) (b3 : Int32) (b4 : Int64) (s : mG) (τ : mG), Q_X9_searchOn n b0 b1 b2 b3 b4 s = some τ → Rn N xs (d + 1 * n) me129 0 [some (.ref 83), some (.int b0), some (.int b1), some (.int b2), some (.int b3), some (.long b4), none, none, none] [] (SH, s) (none, (SH, τ)) := by
  intro n
  induction n with
  | zero => intro b0 b1 b2 b3 b4 s τ h; cases h
  | succ n ih =>
    intro b0 b1 b2 b3 b4 s τ h
    have h2 := k_X9_searchOn (N := N) (xs := xs) (Q_X9_searchOn n) (d + 1 * n) ih h
    rw [Nat.mul_succ, ← Nat.add_assoc]
    exact h2
def R_X9_searchOn : Int32 → Int32 → Int32 → Int32 → Int64 → mG → Option (mG) := Q_X9_searchOn 5
theorem kR_X9_searchOn {N : Nat} {xs : Nat → Int32} (d : Nat) : ∀ (b0 : Int32) (b1 : Int32) (b2 : Int32) (b3 : Int32) (b4 : Int64) (s : mG) (τ : mG), R_X9_searchOn b0 b1 b2 b3 b4 s = some τ → Rn N xs (d + 5) me129 0 [some (.ref 83), some (.int b0), some (.int b1), some (.int b2), some (.int b3), some (.long b4), none, none, none] [] (SH, s) (none, (SH, τ)) :=
  fun b0 b1 b2 b3 b4 s τ h => kQ_X9_searchOn d 5 b0 b1 b2 b3 b4 s τ h
/-! IsHeIn$Rounds.searchFloors(I)V -/
theorem srt128 : m_srt mc128 = true := by decide +kernel
def C_X9_searchFloors_2 (N : Nat) (xs : Nat → Int32) (d : Nat) (r : Option Value × mH) (C : (mG) → Prop) : ((Int32 × Int32 × mG) ⊕ (mG)) → Prop
  | .inl v => Rn N xs (d + 7) me128 2 [some (.ref 83), some (.int v.1), some (.int v.2.1), none] [] (SH, v.2.2) r
  | .inr a => C a
def C_X9_searchFloors_26 (N : Nat) (xs : Nat → Int32) (d : Nat) (r : Option Value × mH) (C : (mG) → Prop) : ((Int32 × Int32 × mG) ⊕ (mG)) → Prop
  | .inl v => Rn N xs (d + 7) me128 26 [some (.ref 83), some (.int v.1), some (.int v.2.1), none] [] (SH, v.2.2) r
  | .inr a => C a
def F_X9_searchFloors_B26 (x1 : Int32) (x2 : Int32) (s : mG) : Option ((Int32 × Int32 × mG) ⊕ (mG)) :=
  if (s.1 2 3) ≤ x2 then
    let s3 : mG := (s.1, muL s.2 83 7 (cl (-1)))
    let s4 : mG := (mu s3.1 83 6 (ci 0), s3.2)
    b1 (F_X9_searchOn R_X9_searchOn x1 (ci 0) (ci 0) (ci 0) (cz 0) s4) fun s6 =>
    some (Sum.inr s6)
  else
    b1 (F_X10_at 2 s x2 (ci 0)) fun v8 =>
    b1 (F_X11_cell 85 s v8) fun v10 =>
    b2 (F_X0_sureOf x2 s) fun v13 s12 =>
    b1 (F_X11_put 85 v8 (v10 + v13) s12) fun s15 =>
    some (Sum.inl (x1, (x2 + ci 1), s15))
set_option maxRecDepth 4000 in
theorem k_X9_searchFloors_B26 {N : Nat} {xs : Nat → Int32} (d : Nat) {r : Option Value × mH} {s : mG} {x1 : Int32} {x2 : Int32} {τ : ((Int32 × Int32 × mG) ⊕ (mG))} (hJ : F_X9_searchFloors_B26 x1 x2 s = some τ) (hC : (C_X9_searchFloors_26 N xs d r (fun τ => r = (none, (SH, τ)))) τ) : Rn N xs (d + 7) me128 26 [some (.ref 83), some (.int x1), some (.int x2), none] [] (SH, s) r := by
  unfold F_X9_searchFloors_B26 at hJ
  refine Rn_sq srt128 16 6 (pc' := (if (s.1 2 3) ≤ x2 then 84 else 40)) (ls' := [some (.ref 83), some (.int x1), some (.int x2), none]) (st' := []) (h1 := (SH, s)) rfl (Rn_if (fun h2 => ?_) (fun h2 => ?_))
  · replace hJ := m_ifp h2 hJ
    extract_lets +onlyGivenNames s3 at hJ
    extract_lets +onlyGivenNames s4 at hJ
    refine Rn_sq srt128 44 12 (pc' := 102) (ls' := [some (.ref 83), some (.int x1), some (.int x2), none]) (st' := [(.long (cz 0)), (.int (ci 0)), (.int (ci 0)), (.int (ci 0)), (.int x1), (.ref 83)]) (h1 := (SH, s4)) rfl ?_
    obtain ⟨s6, h5, hJ⟩ := m_b1 hJ
    refine Rn_call srt128 56 rfl rfl rfl ⟨Nat.le_of_ble_eq_true rfl, Nat.le_of_ble_eq_true rfl, rfl, Nat.le_of_ble_eq_true rfl⟩ (Rn_dep 0 (k_X9_searchOn R_X9_searchOn (d + 5) (kR_X9_searchOn d) h5)) (show Rn N xs (d + 7) me128 105 [some (.ref 83), some (.int x1), some (.int x2), none] [] (SH, s6) r from ?_)
    rw [← Option.some.inj hJ] at hC
    have hC : r = (none, (SH, s6)) := hC
    subst hC
    exact Rn_ret srt128 57 rfl rfl rfl
  · replace hJ := m_ifn h2 hJ
    refine Rn_sq srt128 22 5 (pc' := 49) (ls' := [some (.ref 83), some (.int x1), some (.int x2), none]) (st' := [(.int (ci 0)), (.int x2), (.ref 2)]) (h1 := (SH, s)) rfl ?_
    obtain ⟨v8, h7, hJ⟩ := m_b1 hJ
    refine Rn_call srt128 27 rfl rfl rfl ⟨Nat.le_of_ble_eq_true rfl, Nat.le_of_ble_eq_true rfl, rfl, Nat.le_of_ble_eq_true rfl⟩ (k_X10_at 2 (d + 6) isT_2 h7) (show Rn N xs (d + 7) me128 52 [some (.ref 83), some (.int x1), some (.int x2), none] [(.int v8)] (SH, s) r from ?_)
    refine Rn_sq srt128 28 7 (pc' := 63) (ls' := [some (.ref 83), some (.int x1), some (.int x2), some (.int v8)]) (st' := [(.int v8), (.ref 85), (.int v8), (.ref 85)]) (h1 := (SH, s)) rfl ?_
    obtain ⟨v10, h9, hJ⟩ := m_b1 hJ
    refine Rn_call srt128 35 rfl rfl rfl ⟨Nat.le_of_ble_eq_true rfl, Nat.le_of_ble_eq_true rfl, rfl, Nat.le_of_ble_eq_true rfl⟩ (k_X11_cell 85 (d + 6) h9) (show Rn N xs (d + 7) me128 66 [some (.ref 83), some (.int x1), some (.int x2), some (.int v8)] [(.int v10), (.int v8), (.ref 85)] (SH, s) r from ?_)
    refine Rn_sq srt128 36 3 (pc' := 71) (ls' := [some (.ref 83), some (.int x1), some (.int x2), some (.int v8)]) (st' := [(.int x2), (.ref 73), (.int v10), (.int v8), (.ref 85)]) (h1 := (SH, s)) rfl ?_
    obtain ⟨v13, s12, h11, hJ⟩ := m_b2 hJ
    refine Rn_call srt128 39 rfl rfl rfl ⟨Nat.le_of_ble_eq_true rfl, Nat.le_of_ble_eq_true rfl, rfl, Nat.le_of_ble_eq_true rfl⟩ (k_X0_sureOf (d + 2) h11) (show Rn N xs (d + 7) me128 74 [some (.ref 83), some (.int x1), some (.int x2), some (.int v8)] [(.int v13), (.int v10), (.int v8), (.ref 85)] (SH, s12) r from ?_)
    refine Rn_sq srt128 40 1 (pc' := 75) (ls' := [some (.ref 83), some (.int x1), some (.int x2), some (.int v8)]) (st' := [(.int (v10 + v13)), (.int v8), (.ref 85)]) (h1 := (SH, s12)) rfl ?_
    obtain ⟨s15, h14, hJ⟩ := m_b1 hJ
    refine Rn_call srt128 41 rfl rfl rfl ⟨Nat.le_of_ble_eq_true rfl, Nat.le_of_ble_eq_true rfl, rfl, Nat.le_of_ble_eq_true rfl⟩ (k_X11_put 85 (d + 6) h14) (show Rn N xs (d + 7) me128 78 [some (.ref 83), some (.int x1), some (.int x2), some (.int v8)] [] (SH, s15) r from ?_)
    refine Rn_sq srt128 42 2 (pc' := 26) (ls' := [some (.ref 83), some (.int x1), some (.int (x2 + ci 1)), some (.int v8)]) (st' := []) (h1 := (SH, s15)) rfl ?_
    rw [← Option.some.inj hJ] at hC
    exact Rn_weaken (a := [some (.ref 83), some (.int x1), some (.int (x2 + ci 1)), none]) (b := [some (.ref 83), some (.int x1), some (.int (x2 + ci 1)), some (.int v8)]) (And.intro rfl (And.intro rfl (And.intro rfl trivial))) rfl hC
def F_X9_searchFloors_L26 (x1 : Int32) (x2 : Int32) (s : mG) : Option (mG) := whl (fun (v : (Int32 × Int32 × mG)) => F_X9_searchFloors_B26 v.1 v.2.1 v.2.2) (x1, x2, s)
theorem k_X9_searchFloors_L26 {N : Nat} {xs : Nat → Int32} (d : Nat) {r : Option Value × mH} {s : mG} {x1 : Int32} {x2 : Int32} {τ : (mG)} (hJ : F_X9_searchFloors_L26 x1 x2 s = some τ) (hC : (fun τ => r = (none, (SH, τ))) τ) : Rn N xs (d + 7) me128 26 [some (.ref 83), some (.int x1), some (.int x2), none] [] (SH, s) r :=
  whl_link (P := fun (v : (Int32 × Int32 × mG)) => Rn N xs (d + 7) me128 26 [some (.ref 83), some (.int v.1), some (.int v.2.1), none] [] (SH, v.2.2) r) (C := (C_X9_searchFloors_26 N xs d r (fun τ => r = (none, (SH, τ))))) (fun v τ h1 h2 => k_X9_searchFloors_B26 d h1 h2) (fun _ h => h) (fun _ h => h) _ _ hJ hC
def F_X9_searchFloors_B2 (x1 : Int32) (x2 : Int32) (s : mG) : Option ((Int32 × Int32 × mG) ⊕ (mG)) :=
  if (cn 4) ≤ x2 then
    b1 (F_X9_searchFloors_L26 x1 (ci 0) s) fun τ => some (Sum.inr τ)
  else
    if x2 < 0 ∨ 4 ≤ x2.toNatClampNeg then none else
    let s17 : mG := (mu s.1 85 x2.toNatClampNeg (ci 0), s.2)
    some (Sum.inl (x1, (x2 + ci 1), s17))
set_option maxRecDepth 4000 in
theorem k_X9_searchFloors_B2 {N : Nat} {xs : Nat → Int32} (d : Nat) {r : Option Value × mH} {s : mG} {x1 : Int32} {x2 : Int32} {τ : ((Int32 × Int32 × mG) ⊕ (mG))} (hJ : F_X9_searchFloors_B2 x1 x2 s = some τ) (hC : (C_X9_searchFloors_2 N xs d r (fun τ => r = (none, (SH, τ)))) τ) : Rn N xs (d + 7) me128 2 [some (.ref 83), some (.int x1), some (.int x2), none] [] (SH, s) r := by
  unfold F_X9_searchFloors_B2 at hJ
  refine Rn_sq srt128 2 5 (pc' := (if (cn 4) ≤ x2 then 24 else 11)) (ls' := [some (.ref 83), some (.int x1), some (.int x2), none]) (st' := []) (h1 := (SH, s)) rfl (Rn_if (fun h1 => ?_) (fun h1 => ?_))
  · replace hJ := m_ifp h1 hJ
    refine Rn_sq srt128 14 2 (pc' := 26) (ls' := [some (.ref 83), some (.int x1), some (.int (ci 0)), none]) (st' := []) (h1 := (SH, s)) rfl ?_
    obtain ⟨τ1, hJ1, hJ⟩ := m_b1 hJ
    rw [← Option.some.inj hJ] at hC
    exact (k_X9_searchFloors_L26 d hJ1 hC)
  · replace hJ := m_ifn h1 hJ
    refine Rn_sq srt128 7 4 (pc' := 17) (ls' := [some (.ref 83), some (.int x1), some (.int x2), none]) (st' := [(.int (ci 0)), (.int x2), (.ref 85)]) (h1 := (SH, s)) rfl ?_
    obtain ⟨h16, hJ⟩ := m_gn hJ
    extract_lets +onlyGivenNames s17 at hJ
    refine Rn_ev srt128 11 rfl rfl rfl (op_ias sh85 h16 (k := x2.toNatClampNeg) rfl) ?_
    refine Rn_sq srt128 12 2 (pc' := 2) (ls' := [some (.ref 83), some (.int x1), some (.int (x2 + ci 1)), none]) (st' := []) (h1 := (SH, s17)) rfl ?_
    rw [← Option.some.inj hJ] at hC
    exact hC
def F_X9_searchFloors_L2 (x1 : Int32) (x2 : Int32) (s : mG) : Option (mG) := whl (fun (v : (Int32 × Int32 × mG)) => F_X9_searchFloors_B2 v.1 v.2.1 v.2.2) (x1, x2, s)
theorem k_X9_searchFloors_L2 {N : Nat} {xs : Nat → Int32} (d : Nat) {r : Option Value × mH} {s : mG} {x1 : Int32} {x2 : Int32} {τ : (mG)} (hJ : F_X9_searchFloors_L2 x1 x2 s = some τ) (hC : (fun τ => r = (none, (SH, τ))) τ) : Rn N xs (d + 7) me128 2 [some (.ref 83), some (.int x1), some (.int x2), none] [] (SH, s) r :=
  whl_link (P := fun (v : (Int32 × Int32 × mG)) => Rn N xs (d + 7) me128 2 [some (.ref 83), some (.int v.1), some (.int v.2.1), none] [] (SH, v.2.2) r) (C := (C_X9_searchFloors_2 N xs d r (fun τ => r = (none, (SH, τ))))) (fun v τ h1 h2 => k_X9_searchFloors_B2 d h1 h2) (fun _ h => h) (fun _ h => h) _ _ hJ hC
def F_X9_searchFloors (a1 : Int32) (s : mG) : Option (mG) :=
  F_X9_searchFloors_L2 a1 (ci 0) s
set_option maxRecDepth 4000 in
theorem k_X9_searchFloors_r {N : Nat} {xs : Nat → Int32} (d : Nat) {r : Option Value × mH} {s : mG} {a1 : Int32} {τ : (mG)} (hJ : F_X9_searchFloors a1 s = some τ) (hC : (fun τ => r = (none, (SH, τ))) τ) : Rn N xs (d + 7) me128 0 [some (.ref 83), some (.int a1), none, none] [] (SH, s) r := by
  unfold F_X9_searchFloors at hJ
  refine Rn_sq srt128 0 2 (pc' := 2) (ls' := [some (.ref 83), some (.int a1), some (.int (ci 0)), none]) (st' := []) (h1 := (SH, s)) rfl ?_
  exact (k_X9_searchFloors_L2 d hJ hC)
theorem k_X9_searchFloors {N : Nat} {xs : Nat → Int32} (d : Nat) {s : mG} {a1 : Int32} {τ : (mG)} (hJ : F_X9_searchFloors a1 s = some τ) : Rn N xs (d + 7) me128 0 [some (.ref 83), some (.int a1), none, none] [] (SH, s) (none, (SH, τ)) := k_X9_searchFloors_r d hJ rfl
/-! IsHeIn.state(I)I -/
theorem srt140 : m_srt mc140 = true := by decide +kernel
def F_X11_state (a1 : Int32) (s : mG) : Option (Int32 × mG) :=
  let s1 : mG := (mu s.1 1 11 a1, s.2)
  b1 (F_X5_forget s1) fun s3 =>
  some ((s.1 1 11), s3)
set_option maxRecDepth 4000 in
theorem k_X11_state_r {N : Nat} {xs : Nat → Int32} (d : Nat) {r : Option Value × mH} {s : mG} {a1 : Int32} {τ : (Int32 × mG)} (hJ : F_X11_state a1 s = some τ) (hC : (fun τ => r = (some (.int τ.1), (SH, τ.2))) τ) : Rn N xs (d + 1) me140 0 [some (.ref 0), some (.int a1), none] [] (SH, s) r := by
  unfold F_X11_state at hJ
  extract_lets +onlyGivenNames s1 at hJ
  refine Rn_sq srt140 0 10 (pc' := 20) (ls' := [some (.ref 0), some (.int a1), some (.int (s.1 1 11))]) (st' := [(.ref 35)]) (h1 := (SH, s1)) rfl ?_
  obtain ⟨s3, h2, hJ⟩ := m_b1 hJ
  refine Rn_call srt140 10 rfl rfl rfl ⟨Nat.le_of_ble_eq_true rfl, Nat.le_of_ble_eq_true rfl, rfl, Nat.le_of_ble_eq_true rfl⟩ (k_X5_forget (d) h2) (show Rn N xs (d + 1) me140 23 [some (.ref 0), some (.int a1), some (.int (s.1 1 11))] [] (SH, s3) r from ?_)
  refine Rn_sq srt140 11 1 (pc' := 24) (ls' := [some (.ref 0), some (.int a1), some (.int (s.1 1 11))]) (st' := [(.int (s.1 1 11))]) (h1 := (SH, s3)) rfl ?_
  rw [← Option.some.inj hJ] at hC
  have hC : r = (some (.int (s.1 1 11)), (SH, s3)) := hC
  subst hC
  exact Rn_ret srt140 12 rfl rfl rfl
theorem k_X11_state {N : Nat} {xs : Nat → Int32} (d : Nat) {s : mG} {a1 : Int32} {τ : (Int32 × mG)} (hJ : F_X11_state a1 s = some τ) : Rn N xs (d + 1) me140 0 [some (.ref 0), some (.int a1), none] [] (SH, s) (some (.int τ.1), (SH, τ.2)) := k_X11_state_r d hJ rfl
/-! IsHeIn.guest(II)I -/
theorem srt141 : m_srt mc141 = true := by decide +kernel
def F_X11_guest_32 (s : mG) : Option (Int32 × mG) :=
  some ((ci (-1)), s)
set_option maxRecDepth 4000 in
theorem k_X11_guest_32 {N : Nat} {xs : Nat → Int32} (d : Nat) {r : Option Value × mH} {s : mG} {τ : (Int32 × mG)} (hJ : F_X11_guest_32 s = some τ) (hC : (fun τ => r = (some (.int τ.1), (SH, τ.2))) τ) : Rn N xs (d + 3) me141 32 [none, none, none] [] (SH, s) r := by
  unfold F_X11_guest_32 at hJ
  refine Rn_sq srt141 15 1 (pc' := 33) (ls' := [none, none, none]) (st' := [(.int (ci (-1)))]) (h1 := (SH, s)) rfl ?_
  rw [← Option.some.inj hJ] at hC
  have hC : r = (some (.int (ci (-1))), (SH, s)) := hC
  subst hC
  exact Rn_ret srt141 16 rfl rfl rfl
def F_X11_guest (a1 : Int32) (a2 : Int32) (s : mG) : Option (Int32 × mG) :=
  b1 (F_X11_isWithin s a1 (ci 0) (ci 3)) fun v2 =>
  if v2 = 0 then
    F_X11_guest_32 s
  else
    b1 (F_X11_isWithin s a2 (ci 0) (c8 99)) fun v5 =>
    if v5 = 0 then
      F_X11_guest_32 s
    else
      b1 (F_X10_isFull 2 s) fun v8 =>
      if v8 = 0 then
        b1 (F_X5_forget s) fun s11 =>
        b2 (F_X2_addGuest 1 a1 a2 s11) fun v14 s13 =>
        some (v14, s13)
      else
        F_X11_guest_32 s
set_option maxRecDepth 4000 in
theorem k_X11_guest_r {N : Nat} {xs : Nat → Int32} (d : Nat) {r : Option Value × mH} {s : mG} {a1 : Int32} {a2 : Int32} {τ : (Int32 × mG)} (hJ : F_X11_guest a1 a2 s = some τ) (hC : (fun τ => r = (some (.int τ.1), (SH, τ.2))) τ) : Rn N xs (d + 3) me141 0 [some (.ref 0), some (.int a1), some (.int a2)] [] (SH, s) r := by
  unfold F_X11_guest at hJ
  refine Rn_sq srt141 0 3 (pc' := 3) (ls' := [some (.ref 0), some (.int a1), some (.int a2)]) (st' := [(.int (ci 3)), (.int (ci 0)), (.int a1)]) (h1 := (SH, s)) rfl ?_
  obtain ⟨v2, h1, hJ⟩ := m_b1 hJ
  refine Rn_call srt141 3 rfl rfl rfl ⟨Nat.le_of_ble_eq_true rfl, Nat.le_of_ble_eq_true rfl, rfl, Nat.le_of_ble_eq_true rfl⟩ (k_X11_isWithin (d + 2) h1) (show Rn N xs (d + 3) me141 6 [some (.ref 0), some (.int a1), some (.int a2)] [(.int v2)] (SH, s) r from ?_)
  refine Rn_sq srt141 4 1 (pc' := (if v2 = 0 then 32 else 9)) (ls' := [some (.ref 0), some (.int a1), some (.int a2)]) (st' := []) (h1 := (SH, s)) rfl (Rn_if (fun h3 => ?_) (fun h3 => ?_))
  · replace hJ := m_ifp h3 hJ
    exact Rn_weaken (a := [none, none, none]) (b := [some (.ref 0), some (.int a1), some (.int a2)]) trivial rfl (k_X11_guest_32 d hJ hC)
  · replace hJ := m_ifn h3 hJ
    refine Rn_sq srt141 5 3 (pc' := 13) (ls' := [some (.ref 0), some (.int a1), some (.int a2)]) (st' := [(.int (c8 99)), (.int (ci 0)), (.int a2)]) (h1 := (SH, s)) rfl ?_
    obtain ⟨v5, h4, hJ⟩ := m_b1 hJ
    refine Rn_call srt141 8 rfl rfl rfl ⟨Nat.le_of_ble_eq_true rfl, Nat.le_of_ble_eq_true rfl, rfl, Nat.le_of_ble_eq_true rfl⟩ (k_X11_isWithin (d + 2) h4) (show Rn N xs (d + 3) me141 16 [some (.ref 0), some (.int a1), some (.int a2)] [(.int v5)] (SH, s) r from ?_)
    refine Rn_sq srt141 9 1 (pc' := (if v5 = 0 then 32 else 19)) (ls' := [some (.ref 0), some (.int a1), some (.int a2)]) (st' := []) (h1 := (SH, s)) rfl (Rn_if (fun h6 => ?_) (fun h6 => ?_))
    · replace hJ := m_ifp h6 hJ
      exact Rn_weaken (a := [none, none, none]) (b := [some (.ref 0), some (.int a1), some (.int a2)]) trivial rfl (k_X11_guest_32 d hJ hC)
    · replace hJ := m_ifn h6 hJ
      refine Rn_sq srt141 10 3 (pc' := 26) (ls' := [some (.ref 0), some (.int a1), some (.int a2)]) (st' := [(.ref 2)]) (h1 := (SH, s)) rfl ?_
      obtain ⟨v8, h7, hJ⟩ := m_b1 hJ
      refine Rn_call srt141 13 rfl rfl rfl ⟨Nat.le_of_ble_eq_true rfl, Nat.le_of_ble_eq_true rfl, rfl, Nat.le_of_ble_eq_true rfl⟩ (k_X10_isFull 2 (d + 2) isT_2 h7) (show Rn N xs (d + 3) me141 29 [some (.ref 0), some (.int a1), some (.int a2)] [(.int v8)] (SH, s) r from ?_)
      refine Rn_sq srt141 14 1 (pc' := (if v8 = 0 then 34 else 32)) (ls' := [some (.ref 0), some (.int a1), some (.int a2)]) (st' := []) (h1 := (SH, s)) rfl (Rn_if (fun h9 => ?_) (fun h9 => ?_))
      · replace hJ := m_ifp h9 hJ
        refine Rn_sq srt141 17 2 (pc' := 38) (ls' := [some (.ref 0), some (.int a1), some (.int a2)]) (st' := [(.ref 35)]) (h1 := (SH, s)) rfl ?_
        obtain ⟨s11, h10, hJ⟩ := m_b1 hJ
        refine Rn_call srt141 19 rfl rfl rfl ⟨Nat.le_of_ble_eq_true rfl, Nat.le_of_ble_eq_true rfl, rfl, Nat.le_of_ble_eq_true rfl⟩ (k_X5_forget (d + 2) h10) (show Rn N xs (d + 3) me141 41 [some (.ref 0), some (.int a1), some (.int a2)] [] (SH, s11) r from ?_)
        refine Rn_sq srt141 20 4 (pc' := 47) (ls' := [some (.ref 0), some (.int a1), some (.int a2)]) (st' := [(.int a2), (.int a1), (.ref 1)]) (h1 := (SH, s11)) rfl ?_
        obtain ⟨v14, s13, h12, hJ⟩ := m_b2 hJ
        refine Rn_call srt141 24 rfl rfl rfl ⟨Nat.le_of_ble_eq_true rfl, Nat.le_of_ble_eq_true rfl, rfl, Nat.le_of_ble_eq_true rfl⟩ (k_X2_addGuest 1 (d) isH_1 h12) (show Rn N xs (d + 3) me141 50 [some (.ref 0), some (.int a1), some (.int a2)] [(.int v14)] (SH, s13) r from ?_)
        rw [← Option.some.inj hJ] at hC
        have hC : r = (some (.int v14), (SH, s13)) := hC
        subst hC
        exact Rn_ret srt141 25 rfl rfl rfl
      · replace hJ := m_ifn h9 hJ
        exact Rn_weaken (a := [none, none, none]) (b := [some (.ref 0), some (.int a1), some (.int a2)]) trivial rfl (k_X11_guest_32 d hJ hC)
theorem k_X11_guest {N : Nat} {xs : Nat → Int32} (d : Nat) {s : mG} {a1 : Int32} {a2 : Int32} {τ : (Int32 × mG)} (hJ : F_X11_guest a1 a2 s = some τ) : Rn N xs (d + 3) me141 0 [some (.ref 0), some (.int a1), some (.int a2)] [] (SH, s) (some (.int τ.1), (SH, τ.2)) := k_X11_guest_r d hJ rfl
/-! IsHeIn.canSet(III)Z -/
theorem srt143 : m_srt mc143 = true := by decide +kernel
def F_X11_canSet_69 (s : mG) : Option (Int32) :=
  some (ci 0)
set_option maxRecDepth 4000 in
theorem k_X11_canSet_69 {N : Nat} {xs : Nat → Int32} (d : Nat) {r : Option Value × mH} {s : mG} {τ : (Int32)} (hJ : F_X11_canSet_69 s = some τ) (hC : (fun τ => r = (some (.int τ), (SH, s))) τ) : Rn N xs (d + 2) me143 69 [none, none, none, none] [] (SH, s) r := by
  unfold F_X11_canSet_69 at hJ
  refine Rn_sq srt143 24 1 (pc' := 70) (ls' := [none, none, none, none]) (st' := [(.int (ci 0))]) (h1 := (SH, s)) rfl ?_
  rw [← Option.some.inj hJ] at hC
  have hC : r = (some (.int (ci 0)), (SH, s)) := hC
  subst hC
  exact Rn_ret srt143 25 rfl rfl (m_ret_b rfl (by decide))
def F_X11_canSet (s : mG) (a1 : Int32) (a2 : Int32) (a3 : Int32) : Option (Int32) :=
  if a1 = ci 0 then
    b1 (F_X11_isWithin s a3 (ci 0) (c8 20)) fun v3 =>
    if v3 = 0 ∨ v3 = 1 then
      some v3
    else none
  else
  if a1 = ci 1 then
    b1 (F_X11_isWithin s a3 (ci 0) (c8 9)) fun v7 =>
    if v7 = 0 ∨ v7 = 1 then
      some v7
    else none
  else
  if a1 = ci 2 then
    b1 (F_X2_isGuest 1 s a2) fun v11 =>
    if v11 = 0 then
      F_X11_canSet_69 s
    else
      b1 (F_X11_isWithin s a3 (ci 0) (c8 99)) fun v14 =>
      if v14 = 0 then
        F_X11_canSet_69 s
      else
        some (ci 1)
  else
  some (ci 0)
set_option maxRecDepth 4000 in
theorem k_X11_canSet_r {N : Nat} {xs : Nat → Int32} (d : Nat) {r : Option Value × mH} {s : mG} {a1 : Int32} {a2 : Int32} {a3 : Int32} {τ : (Int32)} (hJ : F_X11_canSet s a1 a2 a3 = some τ) (hC : (fun τ => r = (some (.int τ), (SH, s))) τ) : Rn N xs (d + 2) me143 0 [some (.ref 0), some (.int a1), some (.int a2), some (.int a3)] [] (SH, s) r := by
  unfold F_X11_canSet at hJ
  refine Rn_sq srt143 0 1 (pc' := 1) (ls' := [some (.ref 0), some (.int a1), some (.int a2), some (.int a3)]) (st' := [(.int a1)]) (h1 := (SH, s)) rfl ?_
  by_cases h1 : a1 = ci 0
  · replace hJ := m_ifp h1 hJ
    refine Rn_ev srt143 1 rfl rfl rfl (op_sw h1 (show _ = some (28, _) from rfl)) ?_
    refine Rn_sq srt143 2 3 (pc' := 32) (ls' := [some (.ref 0), some (.int a1), some (.int a2), some (.int a3)]) (st' := [(.int (c8 20)), (.int (ci 0)), (.int a3)]) (h1 := (SH, s)) rfl ?_
    obtain ⟨v3, h2, hJ⟩ := m_b1 hJ
    refine Rn_call srt143 5 rfl rfl rfl ⟨Nat.le_of_ble_eq_true rfl, Nat.le_of_ble_eq_true rfl, rfl, Nat.le_of_ble_eq_true rfl⟩ (k_X11_isWithin (d + 1) h2) (show Rn N xs (d + 2) me143 35 [some (.ref 0), some (.int a1), some (.int a2), some (.int a3)] [(.int v3)] (SH, s) r from ?_)
    obtain ⟨h4, hJ⟩ := m_gp hJ
    rw [← Option.some.inj hJ] at hC
    have hC : r = (some (.int v3), (SH, s)) := hC
    subst hC
    exact Rn_ret srt143 6 rfl rfl (m_ret_b rfl h4)
  replace hJ := m_ifn h1 hJ
  by_cases h5 : a1 = ci 1
  · replace hJ := m_ifp h5 hJ
    refine Rn_ev srt143 1 rfl rfl rfl (op_sw h5 (show _ = some (36, _) from rfl)) ?_
    refine Rn_sq srt143 7 3 (pc' := 40) (ls' := [some (.ref 0), some (.int a1), some (.int a2), some (.int a3)]) (st' := [(.int (c8 9)), (.int (ci 0)), (.int a3)]) (h1 := (SH, s)) rfl ?_
    obtain ⟨v7, h6, hJ⟩ := m_b1 hJ
    refine Rn_call srt143 10 rfl rfl rfl ⟨Nat.le_of_ble_eq_true rfl, Nat.le_of_ble_eq_true rfl, rfl, Nat.le_of_ble_eq_true rfl⟩ (k_X11_isWithin (d + 1) h6) (show Rn N xs (d + 2) me143 43 [some (.ref 0), some (.int a1), some (.int a2), some (.int a3)] [(.int v7)] (SH, s) r from ?_)
    obtain ⟨h8, hJ⟩ := m_gp hJ
    rw [← Option.some.inj hJ] at hC
    have hC : r = (some (.int v7), (SH, s)) := hC
    subst hC
    exact Rn_ret srt143 11 rfl rfl (m_ret_b rfl h8)
  replace hJ := m_ifn h5 hJ
  by_cases h9 : a1 = ci 2
  · replace hJ := m_ifp h9 hJ
    refine Rn_ev srt143 1 rfl rfl rfl (op_sw h9 (show _ = some (44, _) from rfl)) ?_
    refine Rn_sq srt143 12 3 (pc' := 49) (ls' := [some (.ref 0), some (.int a1), some (.int a2), some (.int a3)]) (st' := [(.int a2), (.ref 1)]) (h1 := (SH, s)) rfl ?_
    obtain ⟨v11, h10, hJ⟩ := m_b1 hJ
    refine Rn_call srt143 15 rfl rfl rfl ⟨Nat.le_of_ble_eq_true rfl, Nat.le_of_ble_eq_true rfl, rfl, Nat.le_of_ble_eq_true rfl⟩ (k_X2_isGuest 1 (d) isH_1 h10) (show Rn N xs (d + 2) me143 52 [some (.ref 0), some (.int a1), some (.int a2), some (.int a3)] [(.int v11)] (SH, s) r from ?_)
    refine Rn_sq srt143 16 1 (pc' := (if v11 = 0 then 69 else 55)) (ls' := [some (.ref 0), some (.int a1), some (.int a2), some (.int a3)]) (st' := []) (h1 := (SH, s)) rfl (Rn_if (fun h12 => ?_) (fun h12 => ?_))
    · replace hJ := m_ifp h12 hJ
      exact Rn_weaken (a := [none, none, none, none]) (b := [some (.ref 0), some (.int a1), some (.int a2), some (.int a3)]) trivial rfl (k_X11_canSet_69 d hJ hC)
    · replace hJ := m_ifn h12 hJ
      refine Rn_sq srt143 17 3 (pc' := 59) (ls' := [some (.ref 0), some (.int a1), some (.int a2), some (.int a3)]) (st' := [(.int (c8 99)), (.int (ci 0)), (.int a3)]) (h1 := (SH, s)) rfl ?_
      obtain ⟨v14, h13, hJ⟩ := m_b1 hJ
      refine Rn_call srt143 20 rfl rfl rfl ⟨Nat.le_of_ble_eq_true rfl, Nat.le_of_ble_eq_true rfl, rfl, Nat.le_of_ble_eq_true rfl⟩ (k_X11_isWithin (d + 1) h13) (show Rn N xs (d + 2) me143 62 [some (.ref 0), some (.int a1), some (.int a2), some (.int a3)] [(.int v14)] (SH, s) r from ?_)
      refine Rn_sq srt143 21 1 (pc' := (if v14 = 0 then 69 else 65)) (ls' := [some (.ref 0), some (.int a1), some (.int a2), some (.int a3)]) (st' := []) (h1 := (SH, s)) rfl (Rn_if (fun h15 => ?_) (fun h15 => ?_))
      · replace hJ := m_ifp h15 hJ
        exact Rn_weaken (a := [none, none, none, none]) (b := [some (.ref 0), some (.int a1), some (.int a2), some (.int a3)]) trivial rfl (k_X11_canSet_69 d hJ hC)
      · replace hJ := m_ifn h15 hJ
        refine Rn_sq srt143 22 2 (pc' := 70) (ls' := [some (.ref 0), some (.int a1), some (.int a2), some (.int a3)]) (st' := [(.int (ci 1))]) (h1 := (SH, s)) rfl ?_
        rw [← Option.some.inj hJ] at hC
        have hC : r = (some (.int (ci 1)), (SH, s)) := hC
        subst hC
        exact Rn_ret srt143 25 rfl rfl (m_ret_b rfl (by decide))
  replace hJ := m_ifn h9 hJ
  refine Rn_ev srt143 1 rfl rfl rfl (op_swd (tg := 71) (sw_out (by decide) (by decide) (by intro v hv1 hv2; rcases (show v = 0 ∨ v = 1 ∨ v = 2 by omega) with rfl | rfl | rfl <;> assumption)) rfl) ?_
  refine Rn_sq srt143 26 1 (pc' := 72) (ls' := [some (.ref 0), some (.int a1), some (.int a2), some (.int a3)]) (st' := [(.int (ci 0))]) (h1 := (SH, s)) rfl ?_
  rw [← Option.some.inj hJ] at hC
  have hC : r = (some (.int (ci 0)), (SH, s)) := hC
  subst hC
  exact Rn_ret srt143 27 rfl rfl (m_ret_b rfl (by decide))
theorem k_X11_canSet {N : Nat} {xs : Nat → Int32} (d : Nat) {s : mG} {a1 : Int32} {a2 : Int32} {a3 : Int32} {τ : (Int32)} (hJ : F_X11_canSet s a1 a2 a3 = some τ) : Rn N xs (d + 2) me143 0 [some (.ref 0), some (.int a1), some (.int a2), some (.int a3)] [] (SH, s) (some (.int τ), (SH, s)) := k_X11_canSet_r d hJ rfl
/-! IsHeIn.set(III)Z -/
theorem srt142 : m_srt mc142 = true := by decide +kernel
def F_X11_set_56 (s : mG) : Option (Int32 × mG) :=
  b1 (F_X5_forget s) fun s7 =>
  some ((ci 1), s7)
set_option maxRecDepth 4000 in
theorem k_X11_set_56 {N : Nat} {xs : Nat → Int32} (d : Nat) {r : Option Value × mH} {s : mG} {τ : (Int32 × mG)} (hJ : F_X11_set_56 s = some τ) (hC : (fun τ => r = (some (.int τ.1), (SH, τ.2))) τ) : Rn N xs (d + 3) me142 56 [some (.ref 0), none, none, none] [] (SH, s) r := by
  unfold F_X11_set_56 at hJ
  refine Rn_sq srt142 30 2 (pc' := 60) (ls' := [some (.ref 0), none, none, none]) (st' := [(.ref 35)]) (h1 := (SH, s)) rfl ?_
  obtain ⟨s7, h6, hJ⟩ := m_b1 hJ
  refine Rn_call srt142 32 rfl rfl rfl ⟨Nat.le_of_ble_eq_true rfl, Nat.le_of_ble_eq_true rfl, rfl, Nat.le_of_ble_eq_true rfl⟩ (k_X5_forget (d + 2) h6) (show Rn N xs (d + 3) me142 63 [some (.ref 0), none, none, none] [] (SH, s7) r from ?_)
  refine Rn_sq srt142 33 1 (pc' := 64) (ls' := [some (.ref 0), none, none, none]) (st' := [(.int (ci 1))]) (h1 := (SH, s7)) rfl ?_
  rw [← Option.some.inj hJ] at hC
  have hC : r = (some (.int (ci 1)), (SH, s7)) := hC
  subst hC
  exact Rn_ret srt142 34 rfl rfl (m_ret_b rfl (by decide))
def F_X11_set (a1 : Int32) (a2 : Int32) (a3 : Int32) (s : mG) : Option (Int32 × mG) :=
  b1 (F_X11_canSet s a1 a2 a3) fun v2 =>
  if v2 = 0 then
    some ((ci 0), s)
  else
    if a1 = 0 then
      let s5 : mG := (mu s.1 1 8 a3, s.2)
      F_X11_set_56 s5
    else
      if a1 = (ci 1) then
        let s9 : mG := (mu s.1 1 9 a3, s.2)
        F_X11_set_56 s9
      else
        b1 (F_X10_put 2 a2 (ci 1) a3 s) fun s11 =>
        F_X11_set_56 s11
set_option maxRecDepth 4000 in
theorem k_X11_set_r {N : Nat} {xs : Nat → Int32} (d : Nat) {r : Option Value × mH} {s : mG} {a1 : Int32} {a2 : Int32} {a3 : Int32} {τ : (Int32 × mG)} (hJ : F_X11_set a1 a2 a3 s = some τ) (hC : (fun τ => r = (some (.int τ.1), (SH, τ.2))) τ) : Rn N xs (d + 3) me142 0 [some (.ref 0), some (.int a1), some (.int a2), some (.int a3)] [] (SH, s) r := by
  unfold F_X11_set at hJ
  refine Rn_sq srt142 0 4 (pc' := 4) (ls' := [some (.ref 0), some (.int a1), some (.int a2), some (.int a3)]) (st' := [(.int a3), (.int a2), (.int a1), (.ref 0)]) (h1 := (SH, s)) rfl ?_
  obtain ⟨v2, h1, hJ⟩ := m_b1 hJ
  refine Rn_call srt142 4 rfl rfl rfl ⟨Nat.le_of_ble_eq_true rfl, Nat.le_of_ble_eq_true rfl, rfl, Nat.le_of_ble_eq_true rfl⟩ (k_X11_canSet (d) h1) (show Rn N xs (d + 3) me142 7 [some (.ref 0), some (.int a1), some (.int a2), some (.int a3)] [(.int v2)] (SH, s) r from ?_)
  refine Rn_sq srt142 5 1 (pc' := (if v2 = 0 then 10 else 12)) (ls' := [some (.ref 0), some (.int a1), some (.int a2), some (.int a3)]) (st' := []) (h1 := (SH, s)) rfl (Rn_if (fun h3 => ?_) (fun h3 => ?_))
  · replace hJ := m_ifp h3 hJ
    refine Rn_sq srt142 6 1 (pc' := 11) (ls' := [some (.ref 0), some (.int a1), some (.int a2), some (.int a3)]) (st' := [(.int (ci 0))]) (h1 := (SH, s)) rfl ?_
    rw [← Option.some.inj hJ] at hC
    have hC : r = (some (.int (ci 0)), (SH, s)) := hC
    subst hC
    exact Rn_ret srt142 7 rfl rfl (m_ret_b rfl (by decide))
  · replace hJ := m_ifn h3 hJ
    refine Rn_sq srt142 8 2 (pc' := (if a1 = 0 then 16 else 27)) (ls' := [some (.ref 0), some (.int a1), some (.int a2), some (.int a3)]) (st' := []) (h1 := (SH, s)) rfl (Rn_if (fun h4 => ?_) (fun h4 => ?_))
    · replace hJ := m_ifp h4 hJ
      extract_lets +onlyGivenNames s5 at hJ
      refine Rn_sq srt142 10 5 (pc' := 56) (ls' := [some (.ref 0), some (.int a1), some (.int a2), some (.int a3)]) (st' := []) (h1 := (SH, s5)) rfl ?_
      exact Rn_weaken (a := [some (.ref 0), none, none, none]) (b := [some (.ref 0), some (.int a1), some (.int a2), some (.int a3)]) (And.intro rfl trivial) rfl (k_X11_set_56 d hJ hC)
    · replace hJ := m_ifn h4 hJ
      refine Rn_sq srt142 15 3 (pc' := (if a1 = (ci 1) then 32 else 43)) (ls' := [some (.ref 0), some (.int a1), some (.int a2), some (.int a3)]) (st' := []) (h1 := (SH, s)) rfl (Rn_if (fun h8 => ?_) (fun h8 => ?_))
      · replace hJ := m_ifp h8 hJ
        extract_lets +onlyGivenNames s9 at hJ
        refine Rn_sq srt142 18 5 (pc' := 56) (ls' := [some (.ref 0), some (.int a1), some (.int a2), some (.int a3)]) (st' := []) (h1 := (SH, s9)) rfl ?_
        exact Rn_weaken (a := [some (.ref 0), none, none, none]) (b := [some (.ref 0), some (.int a1), some (.int a2), some (.int a3)]) (And.intro rfl trivial) rfl (k_X11_set_56 d hJ hC)
      · replace hJ := m_ifn h8 hJ
        refine Rn_sq srt142 23 6 (pc' := 53) (ls' := [some (.ref 0), some (.int a1), some (.int a2), some (.int a3)]) (st' := [(.int a3), (.int (ci 1)), (.int a2), (.ref 2)]) (h1 := (SH, s)) rfl ?_
        obtain ⟨s11, h10, hJ⟩ := m_b1 hJ
        refine Rn_call srt142 29 rfl rfl rfl ⟨Nat.le_of_ble_eq_true rfl, Nat.le_of_ble_eq_true rfl, rfl, Nat.le_of_ble_eq_true rfl⟩ (k_X10_put 2 (d + 2) isT_2 h10) (show Rn N xs (d + 3) me142 56 [some (.ref 0), some (.int a1), some (.int a2), some (.int a3)] [] (SH, s11) r from ?_)
        exact Rn_weaken (a := [some (.ref 0), none, none, none]) (b := [some (.ref 0), some (.int a1), some (.int a2), some (.int a3)]) (And.intro rfl trivial) rfl (k_X11_set_56 d hJ hC)
theorem k_X11_set {N : Nat} {xs : Nat → Int32} (d : Nat) {s : mG} {a1 : Int32} {a2 : Int32} {a3 : Int32} {τ : (Int32 × mG)} (hJ : F_X11_set a1 a2 a3 s = some τ) : Rn N xs (d + 3) me142 0 [some (.ref 0), some (.int a1), some (.int a2), some (.int a3)] [] (SH, s) (some (.int τ.1), (SH, τ.2)) := k_X11_set_r d hJ rfl
/-! IsHeIn.hang(II)Z -/
theorem srt144 : m_srt mc144 = true := by decide +kernel
def F_X11_hang_44 (s : mG) : Option (Int32 × mG) :=
  some ((ci 0), s)
set_option maxRecDepth 4000 in
theorem k_X11_hang_44 {N : Nat} {xs : Nat → Int32} (d : Nat) {r : Option Value × mH} {s : mG} {τ : (Int32 × mG)} (hJ : F_X11_hang_44 s = some τ) (hC : (fun τ => r = (some (.int τ.1), (SH, τ.2))) τ) : Rn N xs (d + 3) me144 44 [none, none, none] [] (SH, s) r := by
  unfold F_X11_hang_44 at hJ
  refine Rn_sq srt144 20 1 (pc' := 45) (ls' := [none, none, none]) (st' := [(.int (ci 0))]) (h1 := (SH, s)) rfl ?_
  rw [← Option.some.inj hJ] at hC
  have hC : r = (some (.int (ci 0)), (SH, s)) := hC
  subst hC
  exact Rn_ret srt144 21 rfl rfl (m_ret_b rfl (by decide))
def F_X11_hang (a1 : Int32) (a2 : Int32) (s : mG) : Option (Int32 × mG) :=
  b1 (F_X2_isGuest 1 s a1) fun v2 =>
  if v2 = 0 then
    F_X11_hang_44 s
  else
    b1 (F_X2_isGuest 1 s a2) fun v5 =>
    if v5 = 0 then
      F_X11_hang_44 s
    else
      b1 (F_X2_isOut 1 s a1) fun v8 =>
      if v8 = 0 then
        F_X11_hang_44 s
      else
        b1 (F_X2_hasKey 1 s a2) fun v11 =>
        if v11 = 0 then
          b1 (F_X5_keep 1 s) fun s14 =>
          b1 (F_X10_put 2 a1 (ci 3) a2 s14) fun s16 =>
          b1 (F_X2_write 1 (ci 2) a1 a2 (ci (-1)) s16) fun s18 =>
          some ((ci 1), s18)
        else
          F_X11_hang_44 s
set_option maxRecDepth 4000 in
theorem k_X11_hang_r {N : Nat} {xs : Nat → Int32} (d : Nat) {r : Option Value × mH} {s : mG} {a1 : Int32} {a2 : Int32} {τ : (Int32 × mG)} (hJ : F_X11_hang a1 a2 s = some τ) (hC : (fun τ => r = (some (.int τ.1), (SH, τ.2))) τ) : Rn N xs (d + 3) me144 0 [some (.ref 0), some (.int a1), some (.int a2)] [] (SH, s) r := by
  unfold F_X11_hang at hJ
  refine Rn_sq srt144 0 3 (pc' := 5) (ls' := [some (.ref 0), some (.int a1), some (.int a2)]) (st' := [(.int a1), (.ref 1)]) (h1 := (SH, s)) rfl ?_
  obtain ⟨v2, h1, hJ⟩ := m_b1 hJ
  refine Rn_call srt144 3 rfl rfl rfl ⟨Nat.le_of_ble_eq_true rfl, Nat.le_of_ble_eq_true rfl, rfl, Nat.le_of_ble_eq_true rfl⟩ (k_X2_isGuest 1 (d + 1) isH_1 h1) (show Rn N xs (d + 3) me144 8 [some (.ref 0), some (.int a1), some (.int a2)] [(.int v2)] (SH, s) r from ?_)
  refine Rn_sq srt144 4 1 (pc' := (if v2 = 0 then 44 else 11)) (ls' := [some (.ref 0), some (.int a1), some (.int a2)]) (st' := []) (h1 := (SH, s)) rfl (Rn_if (fun h3 => ?_) (fun h3 => ?_))
  · replace hJ := m_ifp h3 hJ
    exact Rn_weaken (a := [none, none, none]) (b := [some (.ref 0), some (.int a1), some (.int a2)]) trivial rfl (k_X11_hang_44 d hJ hC)
  · replace hJ := m_ifn h3 hJ
    refine Rn_sq srt144 5 3 (pc' := 16) (ls' := [some (.ref 0), some (.int a1), some (.int a2)]) (st' := [(.int a2), (.ref 1)]) (h1 := (SH, s)) rfl ?_
    obtain ⟨v5, h4, hJ⟩ := m_b1 hJ
    refine Rn_call srt144 8 rfl rfl rfl ⟨Nat.le_of_ble_eq_true rfl, Nat.le_of_ble_eq_true rfl, rfl, Nat.le_of_ble_eq_true rfl⟩ (k_X2_isGuest 1 (d + 1) isH_1 h4) (show Rn N xs (d + 3) me144 19 [some (.ref 0), some (.int a1), some (.int a2)] [(.int v5)] (SH, s) r from ?_)
    refine Rn_sq srt144 9 1 (pc' := (if v5 = 0 then 44 else 22)) (ls' := [some (.ref 0), some (.int a1), some (.int a2)]) (st' := []) (h1 := (SH, s)) rfl (Rn_if (fun h6 => ?_) (fun h6 => ?_))
    · replace hJ := m_ifp h6 hJ
      exact Rn_weaken (a := [none, none, none]) (b := [some (.ref 0), some (.int a1), some (.int a2)]) trivial rfl (k_X11_hang_44 d hJ hC)
    · replace hJ := m_ifn h6 hJ
      refine Rn_sq srt144 10 3 (pc' := 27) (ls' := [some (.ref 0), some (.int a1), some (.int a2)]) (st' := [(.int a1), (.ref 1)]) (h1 := (SH, s)) rfl ?_
      obtain ⟨v8, h7, hJ⟩ := m_b1 hJ
      refine Rn_call srt144 13 rfl rfl rfl ⟨Nat.le_of_ble_eq_true rfl, Nat.le_of_ble_eq_true rfl, rfl, Nat.le_of_ble_eq_true rfl⟩ (k_X2_isOut 1 (d + 1) isH_1 h7) (show Rn N xs (d + 3) me144 30 [some (.ref 0), some (.int a1), some (.int a2)] [(.int v8)] (SH, s) r from ?_)
      refine Rn_sq srt144 14 1 (pc' := (if v8 = 0 then 44 else 33)) (ls' := [some (.ref 0), some (.int a1), some (.int a2)]) (st' := []) (h1 := (SH, s)) rfl (Rn_if (fun h9 => ?_) (fun h9 => ?_))
      · replace hJ := m_ifp h9 hJ
        exact Rn_weaken (a := [none, none, none]) (b := [some (.ref 0), some (.int a1), some (.int a2)]) trivial rfl (k_X11_hang_44 d hJ hC)
      · replace hJ := m_ifn h9 hJ
        refine Rn_sq srt144 15 3 (pc' := 38) (ls' := [some (.ref 0), some (.int a1), some (.int a2)]) (st' := [(.int a2), (.ref 1)]) (h1 := (SH, s)) rfl ?_
        obtain ⟨v11, h10, hJ⟩ := m_b1 hJ
        refine Rn_call srt144 18 rfl rfl rfl ⟨Nat.le_of_ble_eq_true rfl, Nat.le_of_ble_eq_true rfl, rfl, Nat.le_of_ble_eq_true rfl⟩ (k_X2_hasKey 1 (d) isH_1 h10) (show Rn N xs (d + 3) me144 41 [some (.ref 0), some (.int a1), some (.int a2)] [(.int v11)] (SH, s) r from ?_)
        refine Rn_sq srt144 19 1 (pc' := (if v11 = 0 then 46 else 44)) (ls' := [some (.ref 0), some (.int a1), some (.int a2)]) (st' := []) (h1 := (SH, s)) rfl (Rn_if (fun h12 => ?_) (fun h12 => ?_))
        · replace hJ := m_ifp h12 hJ
          refine Rn_sq srt144 22 4 (pc' := 54) (ls' := [some (.ref 0), some (.int a1), some (.int a2)]) (st' := [(.ref 1), (.ref 35)]) (h1 := (SH, s)) rfl ?_
          obtain ⟨s14, h13, hJ⟩ := m_b1 hJ
          refine Rn_call srt144 26 rfl rfl rfl ⟨Nat.le_of_ble_eq_true rfl, Nat.le_of_ble_eq_true rfl, rfl, Nat.le_of_ble_eq_true rfl⟩ (k_X5_keep 1 (d) isH_1 h13) (show Rn N xs (d + 3) me144 57 [some (.ref 0), some (.int a1), some (.int a2)] [] (SH, s14) r from ?_)
          refine Rn_sq srt144 27 6 (pc' := 67) (ls' := [some (.ref 0), some (.int a1), some (.int a2)]) (st' := [(.int a2), (.int (ci 3)), (.int a1), (.ref 2)]) (h1 := (SH, s14)) rfl ?_
          obtain ⟨s16, h15, hJ⟩ := m_b1 hJ
          refine Rn_call srt144 33 rfl rfl rfl ⟨Nat.le_of_ble_eq_true rfl, Nat.le_of_ble_eq_true rfl, rfl, Nat.le_of_ble_eq_true rfl⟩ (k_X10_put 2 (d + 2) isT_2 h15) (show Rn N xs (d + 3) me144 70 [some (.ref 0), some (.int a1), some (.int a2)] [] (SH, s16) r from ?_)
          refine Rn_sq srt144 34 6 (pc' := 78) (ls' := [some (.ref 0), some (.int a1), some (.int a2)]) (st' := [(.int (ci (-1))), (.int a2), (.int a1), (.int (ci 2)), (.ref 1)]) (h1 := (SH, s16)) rfl ?_
          obtain ⟨s18, h17, hJ⟩ := m_b1 hJ
          refine Rn_call srt144 40 rfl rfl rfl ⟨Nat.le_of_ble_eq_true rfl, Nat.le_of_ble_eq_true rfl, rfl, Nat.le_of_ble_eq_true rfl⟩ (k_X2_write 1 (d) isH_1 h17) (show Rn N xs (d + 3) me144 81 [some (.ref 0), some (.int a1), some (.int a2)] [] (SH, s18) r from ?_)
          refine Rn_sq srt144 41 1 (pc' := 82) (ls' := [some (.ref 0), some (.int a1), some (.int a2)]) (st' := [(.int (ci 1))]) (h1 := (SH, s18)) rfl ?_
          rw [← Option.some.inj hJ] at hC
          have hC : r = (some (.int (ci 1)), (SH, s18)) := hC
          subst hC
          exact Rn_ret srt144 42 rfl rfl (m_ret_b rfl (by decide))
        · replace hJ := m_ifn h12 hJ
          exact Rn_weaken (a := [none, none, none]) (b := [some (.ref 0), some (.int a1), some (.int a2)]) trivial rfl (k_X11_hang_44 d hJ hC)
theorem k_X11_hang {N : Nat} {xs : Nat → Int32} (d : Nat) {s : mG} {a1 : Int32} {a2 : Int32} {τ : (Int32 × mG)} (hJ : F_X11_hang a1 a2 s = some τ) : Rn N xs (d + 3) me144 0 [some (.ref 0), some (.int a1), some (.int a2)] [] (SH, s) (some (.int τ.1), (SH, τ.2)) := k_X11_hang_r d hJ rfl
/-! IsHeIn.looks(III)Z -/
theorem srt145 : m_srt mc145 = true := by decide +kernel
def F_X11_looks_31 (s : mG) : Option (Int32 × mG) :=
  some ((ci 0), s)
set_option maxRecDepth 4000 in
theorem k_X11_looks_31 {N : Nat} {xs : Nat → Int32} (d : Nat) {r : Option Value × mH} {s : mG} {τ : (Int32 × mG)} (hJ : F_X11_looks_31 s = some τ) (hC : (fun τ => r = (some (.int τ.1), (SH, τ.2))) τ) : Rn N xs (d + 3) me145 31 [none, none, none, none] [] (SH, s) r := by
  unfold F_X11_looks_31 at hJ
  refine Rn_sq srt145 15 1 (pc' := 32) (ls' := [none, none, none, none]) (st' := [(.int (ci 0))]) (h1 := (SH, s)) rfl ?_
  rw [← Option.some.inj hJ] at hC
  have hC : r = (some (.int (ci 0)), (SH, s)) := hC
  subst hC
  exact Rn_ret srt145 16 rfl rfl (m_ret_b rfl (by decide))
def F_X11_looks (a1 : Int32) (a2 : Int32) (a3 : Int32) (s : mG) : Option (Int32 × mG) :=
  b1 (F_X2_isGuest 1 s a1) fun v2 =>
  if v2 = 0 then
    F_X11_looks_31 s
  else
    b1 (F_X2_isSign 1 s a2) fun v5 =>
    if v5 = 0 then
      F_X11_looks_31 s
    else
      b1 (F_X11_isWithin s a3 (ci (-1)) (ci 1)) fun v8 =>
      if v8 = 0 then
        F_X11_looks_31 s
      else
        b1 (F_X10_at 2 s a1 ((ci 5) + a2)) fun v11 =>
        if v11 = a3 then
          some ((ci 0), s)
        else
          b1 (F_X5_keep 1 s) fun s14 =>
          b1 (F_X10_put 2 a1 ((ci 5) + a2) a3 s14) fun s16 =>
          some ((ci 1), s16)
set_option maxRecDepth 4000 in
theorem k_X11_looks_r {N : Nat} {xs : Nat → Int32} (d : Nat) {r : Option Value × mH} {s : mG} {a1 : Int32} {a2 : Int32} {a3 : Int32} {τ : (Int32 × mG)} (hJ : F_X11_looks a1 a2 a3 s = some τ) (hC : (fun τ => r = (some (.int τ.1), (SH, τ.2))) τ) : Rn N xs (d + 3) me145 0 [some (.ref 0), some (.int a1), some (.int a2), some (.int a3)] [] (SH, s) r := by
  unfold F_X11_looks at hJ
  refine Rn_sq srt145 0 3 (pc' := 5) (ls' := [some (.ref 0), some (.int a1), some (.int a2), some (.int a3)]) (st' := [(.int a1), (.ref 1)]) (h1 := (SH, s)) rfl ?_
  obtain ⟨v2, h1, hJ⟩ := m_b1 hJ
  refine Rn_call srt145 3 rfl rfl rfl ⟨Nat.le_of_ble_eq_true rfl, Nat.le_of_ble_eq_true rfl, rfl, Nat.le_of_ble_eq_true rfl⟩ (k_X2_isGuest 1 (d + 1) isH_1 h1) (show Rn N xs (d + 3) me145 8 [some (.ref 0), some (.int a1), some (.int a2), some (.int a3)] [(.int v2)] (SH, s) r from ?_)
  refine Rn_sq srt145 4 1 (pc' := (if v2 = 0 then 31 else 11)) (ls' := [some (.ref 0), some (.int a1), some (.int a2), some (.int a3)]) (st' := []) (h1 := (SH, s)) rfl (Rn_if (fun h3 => ?_) (fun h3 => ?_))
  · replace hJ := m_ifp h3 hJ
    exact Rn_weaken (a := [none, none, none, none]) (b := [some (.ref 0), some (.int a1), some (.int a2), some (.int a3)]) trivial rfl (k_X11_looks_31 d hJ hC)
  · replace hJ := m_ifn h3 hJ
    refine Rn_sq srt145 5 3 (pc' := 16) (ls' := [some (.ref 0), some (.int a1), some (.int a2), some (.int a3)]) (st' := [(.int a2), (.ref 1)]) (h1 := (SH, s)) rfl ?_
    obtain ⟨v5, h4, hJ⟩ := m_b1 hJ
    refine Rn_call srt145 8 rfl rfl rfl ⟨Nat.le_of_ble_eq_true rfl, Nat.le_of_ble_eq_true rfl, rfl, Nat.le_of_ble_eq_true rfl⟩ (k_X2_isSign 1 (d + 1) isH_1 h4) (show Rn N xs (d + 3) me145 19 [some (.ref 0), some (.int a1), some (.int a2), some (.int a3)] [(.int v5)] (SH, s) r from ?_)
    refine Rn_sq srt145 9 1 (pc' := (if v5 = 0 then 31 else 22)) (ls' := [some (.ref 0), some (.int a1), some (.int a2), some (.int a3)]) (st' := []) (h1 := (SH, s)) rfl (Rn_if (fun h6 => ?_) (fun h6 => ?_))
    · replace hJ := m_ifp h6 hJ
      exact Rn_weaken (a := [none, none, none, none]) (b := [some (.ref 0), some (.int a1), some (.int a2), some (.int a3)]) trivial rfl (k_X11_looks_31 d hJ hC)
    · replace hJ := m_ifn h6 hJ
      refine Rn_sq srt145 10 3 (pc' := 25) (ls' := [some (.ref 0), some (.int a1), some (.int a2), some (.int a3)]) (st' := [(.int (ci 1)), (.int (ci (-1))), (.int a3)]) (h1 := (SH, s)) rfl ?_
      obtain ⟨v8, h7, hJ⟩ := m_b1 hJ
      refine Rn_call srt145 13 rfl rfl rfl ⟨Nat.le_of_ble_eq_true rfl, Nat.le_of_ble_eq_true rfl, rfl, Nat.le_of_ble_eq_true rfl⟩ (k_X11_isWithin (d + 2) h7) (show Rn N xs (d + 3) me145 28 [some (.ref 0), some (.int a1), some (.int a2), some (.int a3)] [(.int v8)] (SH, s) r from ?_)
      refine Rn_sq srt145 14 1 (pc' := (if v8 = 0 then 31 else 33)) (ls' := [some (.ref 0), some (.int a1), some (.int a2), some (.int a3)]) (st' := []) (h1 := (SH, s)) rfl (Rn_if (fun h9 => ?_) (fun h9 => ?_))
      · replace hJ := m_ifp h9 hJ
        exact Rn_weaken (a := [none, none, none, none]) (b := [some (.ref 0), some (.int a1), some (.int a2), some (.int a3)]) trivial rfl (k_X11_looks_31 d hJ hC)
      · replace hJ := m_ifn h9 hJ
        refine Rn_sq srt145 17 7 (pc' := 44) (ls' := [some (.ref 0), some (.int a1), some (.int a2), some (.int a3)]) (st' := [(.int ((ci 5) + a2)), (.int a1), (.ref 2)]) (h1 := (SH, s)) rfl ?_
        obtain ⟨v11, h10, hJ⟩ := m_b1 hJ
        refine Rn_call srt145 24 rfl rfl rfl ⟨Nat.le_of_ble_eq_true rfl, Nat.le_of_ble_eq_true rfl, rfl, Nat.le_of_ble_eq_true rfl⟩ (k_X10_at 2 (d + 2) isT_2 h10) (show Rn N xs (d + 3) me145 47 [some (.ref 0), some (.int a1), some (.int a2), some (.int a3)] [(.int v11)] (SH, s) r from ?_)
        refine Rn_sq srt145 25 2 (pc' := (if v11 = a3 then 51 else 53)) (ls' := [some (.ref 0), some (.int a1), some (.int a2), some (.int a3)]) (st' := []) (h1 := (SH, s)) rfl (Rn_if (fun h12 => ?_) (fun h12 => ?_))
        · replace hJ := m_ifp h12 hJ
          refine Rn_sq srt145 27 1 (pc' := 52) (ls' := [some (.ref 0), some (.int a1), some (.int a2), some (.int a3)]) (st' := [(.int (ci 0))]) (h1 := (SH, s)) rfl ?_
          rw [← Option.some.inj hJ] at hC
          have hC : r = (some (.int (ci 0)), (SH, s)) := hC
          subst hC
          exact Rn_ret srt145 28 rfl rfl (m_ret_b rfl (by decide))
        · replace hJ := m_ifn h12 hJ
          refine Rn_sq srt145 29 4 (pc' := 61) (ls' := [some (.ref 0), some (.int a1), some (.int a2), some (.int a3)]) (st' := [(.ref 1), (.ref 35)]) (h1 := (SH, s)) rfl ?_
          obtain ⟨s14, h13, hJ⟩ := m_b1 hJ
          refine Rn_call srt145 33 rfl rfl rfl ⟨Nat.le_of_ble_eq_true rfl, Nat.le_of_ble_eq_true rfl, rfl, Nat.le_of_ble_eq_true rfl⟩ (k_X5_keep 1 (d) isH_1 h13) (show Rn N xs (d + 3) me145 64 [some (.ref 0), some (.int a1), some (.int a2), some (.int a3)] [] (SH, s14) r from ?_)
          refine Rn_sq srt145 34 8 (pc' := 76) (ls' := [some (.ref 0), some (.int a1), some (.int a2), some (.int a3)]) (st' := [(.int a3), (.int ((ci 5) + a2)), (.int a1), (.ref 2)]) (h1 := (SH, s14)) rfl ?_
          obtain ⟨s16, h15, hJ⟩ := m_b1 hJ
          refine Rn_call srt145 42 rfl rfl rfl ⟨Nat.le_of_ble_eq_true rfl, Nat.le_of_ble_eq_true rfl, rfl, Nat.le_of_ble_eq_true rfl⟩ (k_X10_put 2 (d + 2) isT_2 h15) (show Rn N xs (d + 3) me145 79 [some (.ref 0), some (.int a1), some (.int a2), some (.int a3)] [] (SH, s16) r from ?_)
          refine Rn_sq srt145 43 1 (pc' := 80) (ls' := [some (.ref 0), some (.int a1), some (.int a2), some (.int a3)]) (st' := [(.int (ci 1))]) (h1 := (SH, s16)) rfl ?_
          rw [← Option.some.inj hJ] at hC
          have hC : r = (some (.int (ci 1)), (SH, s16)) := hC
          subst hC
          exact Rn_ret srt145 44 rfl rfl (m_ret_b rfl (by decide))
theorem k_X11_looks {N : Nat} {xs : Nat → Int32} (d : Nat) {s : mG} {a1 : Int32} {a2 : Int32} {a3 : Int32} {τ : (Int32 × mG)} (hJ : F_X11_looks a1 a2 a3 s = some τ) : Rn N xs (d + 3) me145 0 [some (.ref 0), some (.int a1), some (.int a2), some (.int a3)] [] (SH, s) (some (.int τ.1), (SH, τ.2)) := k_X11_looks_r d hJ rfl
/-! IsHeIn.hours(I)I -/
theorem srt146 : m_srt mc146 = true := by decide +kernel
def F_X11_hours_25 (s : mG) : Option (Int32 × mG) :=
  some ((ci (-1)), s)
set_option maxRecDepth 4000 in
theorem k_X11_hours_25 {N : Nat} {xs : Nat → Int32} (d : Nat) {r : Option Value × mH} {s : mG} {τ : (Int32 × mG)} (hJ : F_X11_hours_25 s = some τ) (hC : (fun τ => r = (some (.int τ.1), (SH, τ.2))) τ) : Rn N xs (d + 6) me146 25 [none, none, none, none] [] (SH, s) r := by
  unfold F_X11_hours_25 at hJ
  refine Rn_sq srt146 12 1 (pc' := 26) (ls' := [none, none, none, none]) (st' := [(.int (ci (-1)))]) (h1 := (SH, s)) rfl ?_
  rw [← Option.some.inj hJ] at hC
  have hC : r = (some (.int (ci (-1))), (SH, s)) := hC
  subst hC
  exact Rn_ret srt146 13 rfl rfl rfl
def C_X11_hours_31 (N : Nat) (xs : Nat → Int32) (d : Nat) (r : Option Value × mH) (C : (Int32 × mG) → Prop) : ((Int32 × Int32 × Int32 × mG) ⊕ (Int32 × mG)) → Prop
  | .inl v => Rn N xs (d + 6) me146 31 [some (.ref 0), some (.int v.1), some (.int v.2.1), some (.int v.2.2.1)] [] (SH, v.2.2.2) r
  | .inr a => C a
def F_X11_hours_B31 (x1 : Int32) (x2 : Int32) (x3 : Int32) (s : mG) : Option ((Int32 × Int32 × Int32 × mG) ⊕ (Int32 × mG)) :=
  if x1 ≤ x3 then
    some (Sum.inr (x2, s))
  else
    b1 (F_X5_keep 1 s) fun s7 =>
    b2 (F_X6_passHour s7) fun v10 s9 =>
    some (Sum.inl (x1, (x2 + v10), (x3 + ci 1), s9))
set_option maxRecDepth 4000 in
theorem k_X11_hours_B31 {N : Nat} {xs : Nat → Int32} (d : Nat) {r : Option Value × mH} {s : mG} {x1 : Int32} {x2 : Int32} {x3 : Int32} {τ : ((Int32 × Int32 × Int32 × mG) ⊕ (Int32 × mG))} (hJ : F_X11_hours_B31 x1 x2 x3 s = some τ) (hC : (C_X11_hours_31 N xs d r (fun τ => r = (some (.int τ.1), (SH, τ.2)))) τ) : Rn N xs (d + 6) me146 31 [some (.ref 0), some (.int x1), some (.int x2), some (.int x3)] [] (SH, s) r := by
  unfold F_X11_hours_B31 at hJ
  refine Rn_sq srt146 18 3 (pc' := (if x1 ≤ x3 then 63 else 36)) (ls' := [some (.ref 0), some (.int x1), some (.int x2), some (.int x3)]) (st' := []) (h1 := (SH, s)) rfl (Rn_if (fun h5 => ?_) (fun h5 => ?_))
  · replace hJ := m_ifp h5 hJ
    refine Rn_sq srt146 34 1 (pc' := 64) (ls' := [some (.ref 0), some (.int x1), some (.int x2), some (.int x3)]) (st' := [(.int x2)]) (h1 := (SH, s)) rfl ?_
    rw [← Option.some.inj hJ] at hC
    have hC : r = (some (.int x2), (SH, s)) := hC
    subst hC
    exact Rn_ret srt146 35 rfl rfl rfl
  · replace hJ := m_ifn h5 hJ
    refine Rn_sq srt146 21 4 (pc' := 44) (ls' := [some (.ref 0), some (.int x1), some (.int x2), some (.int x3)]) (st' := [(.ref 1), (.ref 35)]) (h1 := (SH, s)) rfl ?_
    obtain ⟨s7, h6, hJ⟩ := m_b1 hJ
    refine Rn_call srt146 25 rfl rfl rfl ⟨Nat.le_of_ble_eq_true rfl, Nat.le_of_ble_eq_true rfl, rfl, Nat.le_of_ble_eq_true rfl⟩ (k_X5_keep 1 (d + 3) isH_1 h6) (show Rn N xs (d + 6) me146 47 [some (.ref 0), some (.int x1), some (.int x2), some (.int x3)] [] (SH, s7) r from ?_)
    refine Rn_sq srt146 26 3 (pc' := 52) (ls' := [some (.ref 0), some (.int x1), some (.int x2), some (.int x3)]) (st' := [(.ref 71), (.int x2)]) (h1 := (SH, s7)) rfl ?_
    obtain ⟨v10, s9, h8, hJ⟩ := m_b2 hJ
    refine Rn_call srt146 29 rfl rfl rfl ⟨Nat.le_of_ble_eq_true rfl, Nat.le_of_ble_eq_true rfl, rfl, Nat.le_of_ble_eq_true rfl⟩ (k_X6_passHour (d) h8) (show Rn N xs (d + 6) me146 55 [some (.ref 0), some (.int x1), some (.int x2), some (.int x3)] [(.int v10), (.int x2)] (SH, s9) r from ?_)
    refine Rn_sq srt146 30 4 (pc' := 31) (ls' := [some (.ref 0), some (.int x1), some (.int (x2 + v10)), some (.int (x3 + ci 1))]) (st' := []) (h1 := (SH, s9)) rfl ?_
    rw [← Option.some.inj hJ] at hC
    exact hC
def F_X11_hours_L31 (x1 : Int32) (x2 : Int32) (x3 : Int32) (s : mG) : Option (Int32 × mG) := whl (fun (v : (Int32 × Int32 × Int32 × mG)) => F_X11_hours_B31 v.1 v.2.1 v.2.2.1 v.2.2.2) (x1, x2, x3, s)
theorem k_X11_hours_L31 {N : Nat} {xs : Nat → Int32} (d : Nat) {r : Option Value × mH} {s : mG} {x1 : Int32} {x2 : Int32} {x3 : Int32} {τ : (Int32 × mG)} (hJ : F_X11_hours_L31 x1 x2 x3 s = some τ) (hC : (fun τ => r = (some (.int τ.1), (SH, τ.2))) τ) : Rn N xs (d + 6) me146 31 [some (.ref 0), some (.int x1), some (.int x2), some (.int x3)] [] (SH, s) r :=
  whl_link (P := fun (v : (Int32 × Int32 × Int32 × mG)) => Rn N xs (d + 6) me146 31 [some (.ref 0), some (.int v.1), some (.int v.2.1), some (.int v.2.2.1)] [] (SH, v.2.2.2) r) (C := (C_X11_hours_31 N xs d r (fun τ => r = (some (.int τ.1), (SH, τ.2))))) (fun v τ h1 h2 => k_X11_hours_B31 d h1 h2) (fun _ h => h) (fun _ h => h) _ _ hJ hC
def F_X11_hours (a1 : Int32) (s : mG) : Option (Int32 × mG) :=
  b1 (F_X11_isWithin s a1 (ci 1) (c8 60)) fun v2 =>
  if v2 = 0 then
    F_X11_hours_25 s
  else
    if ((s.1 1 10) + a1) ≤ (c16 9999) then
      F_X11_hours_L31 a1 (ci 0) (ci 0) s
    else
      F_X11_hours_25 s
set_option maxRecDepth 4000 in
theorem k_X11_hours_r {N : Nat} {xs : Nat → Int32} (d : Nat) {r : Option Value × mH} {s : mG} {a1 : Int32} {τ : (Int32 × mG)} (hJ : F_X11_hours a1 s = some τ) (hC : (fun τ => r = (some (.int τ.1), (SH, τ.2))) τ) : Rn N xs (d + 6) me146 0 [some (.ref 0), some (.int a1), none, none] [] (SH, s) r := by
  unfold F_X11_hours at hJ
  refine Rn_sq srt146 0 3 (pc' := 4) (ls' := [some (.ref 0), some (.int a1), none, none]) (st' := [(.int (c8 60)), (.int (ci 1)), (.int a1)]) (h1 := (SH, s)) rfl ?_
  obtain ⟨v2, h1, hJ⟩ := m_b1 hJ
  refine Rn_call srt146 3 rfl rfl rfl ⟨Nat.le_of_ble_eq_true rfl, Nat.le_of_ble_eq_true rfl, rfl, Nat.le_of_ble_eq_true rfl⟩ (k_X11_isWithin (d + 5) h1) (show Rn N xs (d + 6) me146 7 [some (.ref 0), some (.int a1), none, none] [(.int v2)] (SH, s) r from ?_)
  refine Rn_sq srt146 4 1 (pc' := (if v2 = 0 then 25 else 10)) (ls' := [some (.ref 0), some (.int a1), none, none]) (st' := []) (h1 := (SH, s)) rfl (Rn_if (fun h3 => ?_) (fun h3 => ?_))
  · replace hJ := m_ifp h3 hJ
    exact Rn_weaken (a := [none, none, none, none]) (b := [some (.ref 0), some (.int a1), none, none]) trivial rfl (k_X11_hours_25 d hJ hC)
  · replace hJ := m_ifn h3 hJ
    refine Rn_sq srt146 5 7 (pc' := (if ((s.1 1 10) + a1) ≤ (c16 9999) then 27 else 25)) (ls' := [some (.ref 0), some (.int a1), none, none]) (st' := []) (h1 := (SH, s)) rfl (Rn_if (fun h4 => ?_) (fun h4 => ?_))
    · replace hJ := m_ifp h4 hJ
      refine Rn_sq srt146 14 4 (pc' := 31) (ls' := [some (.ref 0), some (.int a1), some (.int (ci 0)), some (.int (ci 0))]) (st' := []) (h1 := (SH, s)) rfl ?_
      exact (k_X11_hours_L31 d hJ hC)
    · replace hJ := m_ifn h4 hJ
      exact Rn_weaken (a := [none, none, none, none]) (b := [some (.ref 0), some (.int a1), none, none]) trivial rfl (k_X11_hours_25 d hJ hC)
theorem k_X11_hours {N : Nat} {xs : Nat → Int32} (d : Nat) {s : mG} {a1 : Int32} {τ : (Int32 × mG)} (hJ : F_X11_hours a1 s = some τ) : Rn N xs (d + 6) me146 0 [some (.ref 0), some (.int a1), none, none] [] (SH, s) (some (.int τ.1), (SH, τ.2)) := k_X11_hours_r d hJ rfl
/-! IsHeIn.feed(IIIII)I -/
theorem srt147 : m_srt mc147 = true := by decide +kernel
def F_X11_feed (a1 : Int32) (a2 : Int32) (a3 : Int32) (a4 : Int32) (a5 : Int32) (s : mG) : Option (Int32 × mG) :=
  b1 (F_X7_hasSpaceFor s (c8 20)) fun v2 =>
  if v2 = 0 then
    some ((ci (-1)), s)
  else
    b1 (F_X7_takeFour a1 s) fun s5 =>
    b1 (F_X7_takeFour a2 s5) fun s7 =>
    b1 (F_X7_takeFour a3 s7) fun s9 =>
    b1 (F_X7_takeFour a4 s9) fun s11 =>
    b1 (F_X7_takeFour a5 s11) fun s13 =>
    some ((s13.1 55 9), s13)
set_option maxRecDepth 4000 in
theorem k_X11_feed_r {N : Nat} {xs : Nat → Int32} (d : Nat) {r : Option Value × mH} {s : mG} {a1 : Int32} {a2 : Int32} {a3 : Int32} {a4 : Int32} {a5 : Int32} {τ : (Int32 × mG)} (hJ : F_X11_feed a1 a2 a3 a4 a5 s = some τ) (hC : (fun τ => r = (some (.int τ.1), (SH, τ.2))) τ) : Rn N xs (d + 2) me147 0 [some (.ref 0), some (.int a1), some (.int a2), some (.int a3), some (.int a4), some (.int a5)] [] (SH, s) r := by
  unfold F_X11_feed at hJ
  refine Rn_sq srt147 0 3 (pc' := 6) (ls' := [some (.ref 0), some (.int a1), some (.int a2), some (.int a3), some (.int a4), some (.int a5)]) (st' := [(.int (c8 20)), (.ref 55)]) (h1 := (SH, s)) rfl ?_
  obtain ⟨v2, h1, hJ⟩ := m_b1 hJ
  refine Rn_call srt147 3 rfl rfl rfl ⟨Nat.le_of_ble_eq_true rfl, Nat.le_of_ble_eq_true rfl, rfl, Nat.le_of_ble_eq_true rfl⟩ (k_X7_hasSpaceFor (d + 1) h1) (show Rn N xs (d + 2) me147 9 [some (.ref 0), some (.int a1), some (.int a2), some (.int a3), some (.int a4), some (.int a5)] [(.int v2)] (SH, s) r from ?_)
  refine Rn_sq srt147 4 1 (pc' := (if v2 = 0 then 12 else 14)) (ls' := [some (.ref 0), some (.int a1), some (.int a2), some (.int a3), some (.int a4), some (.int a5)]) (st' := []) (h1 := (SH, s)) rfl (Rn_if (fun h3 => ?_) (fun h3 => ?_))
  · replace hJ := m_ifp h3 hJ
    refine Rn_sq srt147 5 1 (pc' := 13) (ls' := [some (.ref 0), some (.int a1), some (.int a2), some (.int a3), some (.int a4), some (.int a5)]) (st' := [(.int (ci (-1)))]) (h1 := (SH, s)) rfl ?_
    rw [← Option.some.inj hJ] at hC
    have hC : r = (some (.int (ci (-1))), (SH, s)) := hC
    subst hC
    exact Rn_ret srt147 6 rfl rfl rfl
  · replace hJ := m_ifn h3 hJ
    refine Rn_sq srt147 7 3 (pc' := 19) (ls' := [some (.ref 0), some (.int a1), some (.int a2), some (.int a3), some (.int a4), some (.int a5)]) (st' := [(.int a1), (.ref 55)]) (h1 := (SH, s)) rfl ?_
    obtain ⟨s5, h4, hJ⟩ := m_b1 hJ
    refine Rn_call srt147 10 rfl rfl rfl ⟨Nat.le_of_ble_eq_true rfl, Nat.le_of_ble_eq_true rfl, rfl, Nat.le_of_ble_eq_true rfl⟩ (k_X7_takeFour (d) h4) (show Rn N xs (d + 2) me147 22 [some (.ref 0), some (.int a1), some (.int a2), some (.int a3), some (.int a4), some (.int a5)] [] (SH, s5) r from ?_)
    refine Rn_sq srt147 11 3 (pc' := 27) (ls' := [some (.ref 0), some (.int a1), some (.int a2), some (.int a3), some (.int a4), some (.int a5)]) (st' := [(.int a2), (.ref 55)]) (h1 := (SH, s5)) rfl ?_
    obtain ⟨s7, h6, hJ⟩ := m_b1 hJ
    refine Rn_call srt147 14 rfl rfl rfl ⟨Nat.le_of_ble_eq_true rfl, Nat.le_of_ble_eq_true rfl, rfl, Nat.le_of_ble_eq_true rfl⟩ (k_X7_takeFour (d) h6) (show Rn N xs (d + 2) me147 30 [some (.ref 0), some (.int a1), some (.int a2), some (.int a3), some (.int a4), some (.int a5)] [] (SH, s7) r from ?_)
    refine Rn_sq srt147 15 3 (pc' := 35) (ls' := [some (.ref 0), some (.int a1), some (.int a2), some (.int a3), some (.int a4), some (.int a5)]) (st' := [(.int a3), (.ref 55)]) (h1 := (SH, s7)) rfl ?_
    obtain ⟨s9, h8, hJ⟩ := m_b1 hJ
    refine Rn_call srt147 18 rfl rfl rfl ⟨Nat.le_of_ble_eq_true rfl, Nat.le_of_ble_eq_true rfl, rfl, Nat.le_of_ble_eq_true rfl⟩ (k_X7_takeFour (d) h8) (show Rn N xs (d + 2) me147 38 [some (.ref 0), some (.int a1), some (.int a2), some (.int a3), some (.int a4), some (.int a5)] [] (SH, s9) r from ?_)
    refine Rn_sq srt147 19 3 (pc' := 44) (ls' := [some (.ref 0), some (.int a1), some (.int a2), some (.int a3), some (.int a4), some (.int a5)]) (st' := [(.int a4), (.ref 55)]) (h1 := (SH, s9)) rfl ?_
    obtain ⟨s11, h10, hJ⟩ := m_b1 hJ
    refine Rn_call srt147 22 rfl rfl rfl ⟨Nat.le_of_ble_eq_true rfl, Nat.le_of_ble_eq_true rfl, rfl, Nat.le_of_ble_eq_true rfl⟩ (k_X7_takeFour (d) h10) (show Rn N xs (d + 2) me147 47 [some (.ref 0), some (.int a1), some (.int a2), some (.int a3), some (.int a4), some (.int a5)] [] (SH, s11) r from ?_)
    refine Rn_sq srt147 23 3 (pc' := 53) (ls' := [some (.ref 0), some (.int a1), some (.int a2), some (.int a3), some (.int a4), some (.int a5)]) (st' := [(.int a5), (.ref 55)]) (h1 := (SH, s11)) rfl ?_
    obtain ⟨s13, h12, hJ⟩ := m_b1 hJ
    refine Rn_call srt147 26 rfl rfl rfl ⟨Nat.le_of_ble_eq_true rfl, Nat.le_of_ble_eq_true rfl, rfl, Nat.le_of_ble_eq_true rfl⟩ (k_X7_takeFour (d) h12) (show Rn N xs (d + 2) me147 56 [some (.ref 0), some (.int a1), some (.int a2), some (.int a3), some (.int a4), some (.int a5)] [] (SH, s13) r from ?_)
    refine Rn_sq srt147 27 3 (pc' := 63) (ls' := [some (.ref 0), some (.int a1), some (.int a2), some (.int a3), some (.int a4), some (.int a5)]) (st' := [(.int (s13.1 55 9))]) (h1 := (SH, s13)) rfl ?_
    rw [← Option.some.inj hJ] at hC
    have hC : r = (some (.int (s13.1 55 9)), (SH, s13)) := hC
    subst hC
    exact Rn_ret srt147 30 rfl rfl rfl
theorem k_X11_feed {N : Nat} {xs : Nat → Int32} (d : Nat) {s : mG} {a1 : Int32} {a2 : Int32} {a3 : Int32} {a4 : Int32} {a5 : Int32} {τ : (Int32 × mG)} (hJ : F_X11_feed a1 a2 a3 a4 a5 s = some τ) : Rn N xs (d + 2) me147 0 [some (.ref 0), some (.int a1), some (.int a2), some (.int a3), some (.int a4), some (.int a5)] [] (SH, s) (some (.int τ.1), (SH, τ.2)) := k_X11_feed_r d hJ rfl
/-! IsHeIn.end(I)Z -/
theorem srt148 : m_srt mc148 = true := by decide +kernel
def F_X11_end (a1 : Int32) (s : mG) : Option (Int32 × mG) :=
  b1 (F_X11_isWithin s a1 (ci 0) (s.1 55 9)) fun v2 =>
  if v2 = 0 then
    some ((ci 0), s)
  else
    let s4 : mG := (mu s.1 55 9 a1, s.2)
    some ((ci 1), s4)
set_option maxRecDepth 4000 in
theorem k_X11_end_r {N : Nat} {xs : Nat → Int32} (d : Nat) {r : Option Value × mH} {s : mG} {a1 : Int32} {τ : (Int32 × mG)} (hJ : F_X11_end a1 s = some τ) (hC : (fun τ => r = (some (.int τ.1), (SH, τ.2))) τ) : Rn N xs (d + 1) me148 0 [some (.ref 0), some (.int a1)] [] (SH, s) r := by
  unfold F_X11_end at hJ
  refine Rn_sq srt148 0 5 (pc' := 9) (ls' := [some (.ref 0), some (.int a1)]) (st' := [(.int (s.1 55 9)), (.int (ci 0)), (.int a1)]) (h1 := (SH, s)) rfl ?_
  obtain ⟨v2, h1, hJ⟩ := m_b1 hJ
  refine Rn_call srt148 5 rfl rfl rfl ⟨Nat.le_of_ble_eq_true rfl, Nat.le_of_ble_eq_true rfl, rfl, Nat.le_of_ble_eq_true rfl⟩ (k_X11_isWithin (d) h1) (show Rn N xs (d + 1) me148 12 [some (.ref 0), some (.int a1)] [(.int v2)] (SH, s) r from ?_)
  refine Rn_sq srt148 6 1 (pc' := (if v2 = 0 then 15 else 17)) (ls' := [some (.ref 0), some (.int a1)]) (st' := []) (h1 := (SH, s)) rfl (Rn_if (fun h3 => ?_) (fun h3 => ?_))
  · replace hJ := m_ifp h3 hJ
    refine Rn_sq srt148 7 1 (pc' := 16) (ls' := [some (.ref 0), some (.int a1)]) (st' := [(.int (ci 0))]) (h1 := (SH, s)) rfl ?_
    rw [← Option.some.inj hJ] at hC
    have hC : r = (some (.int (ci 0)), (SH, s)) := hC
    subst hC
    exact Rn_ret srt148 8 rfl rfl (m_ret_b rfl (by decide))
  · replace hJ := m_ifn h3 hJ
    extract_lets +onlyGivenNames s4 at hJ
    refine Rn_sq srt148 9 5 (pc' := 26) (ls' := [some (.ref 0), some (.int a1)]) (st' := [(.int (ci 1))]) (h1 := (SH, s4)) rfl ?_
    rw [← Option.some.inj hJ] at hC
    have hC : r = (some (.int (ci 1)), (SH, s4)) := hC
    subst hC
    exact Rn_ret srt148 14 rfl rfl (m_ret_b rfl (by decide))
theorem k_X11_end {N : Nat} {xs : Nat → Int32} (d : Nat) {s : mG} {a1 : Int32} {τ : (Int32 × mG)} (hJ : F_X11_end a1 s = some τ) : Rn N xs (d + 1) me148 0 [some (.ref 0), some (.int a1)] [] (SH, s) (some (.int τ.1), (SH, τ.2)) := k_X11_end_r d hJ rfl
/-! IsHeIn.text(I)I -/
theorem srt149 : m_srt mc149 = true := by decide +kernel
def F_X11_text (a1 : Int32) (s : mG) : Option (Int32 × mG) :=
  b2 (F_X7_readText a1 s) fun v3 s2 =>
  let s4 : mG := (mu s2.1 55 9 (ci 0), s2.2)
  if v3 = 0 then
    some ((ci (-1)), s4)
  else
    if a1 = 0 then
      b1 (F_X10_copyFrom 6 56 s4) fun s8 =>
      b1 (F_X10_copyFrom 8 58 s8) fun s10 =>
      some ((s10.1 6 3), s10)
    else
      b1 (F_X5_forget s4) fun s12 =>
      if a1 = (ci 1) then
        b1 (F_X10_copyFrom 10 60 s12) fun s15 =>
        b1 (F_X2_forgetSeen 1 s15) fun s17 =>
        some ((s17.1 10 3), s17)
      else
        b1 (F_X10_copyFrom 12 62 s12) fun s19 =>
        some ((s19.1 12 3), s19)
set_option maxRecDepth 4000 in
theorem k_X11_text_r {N : Nat} {xs : Nat → Int32} (d : Nat) {r : Option Value × mH} {s : mG} {a1 : Int32} {τ : (Int32 × mG)} (hJ : F_X11_text a1 s = some τ) (hC : (fun τ => r = (some (.int τ.1), (SH, τ.2))) τ) : Rn N xs (d + 9) me149 0 [some (.ref 0), some (.int a1), none] [] (SH, s) r := by
  unfold F_X11_text at hJ
  refine Rn_sq srt149 0 3 (pc' := 5) (ls' := [some (.ref 0), some (.int a1), none]) (st' := [(.int a1), (.ref 55)]) (h1 := (SH, s)) rfl ?_
  obtain ⟨v3, s2, h1, hJ⟩ := m_b2 hJ
  refine Rn_call srt149 3 rfl rfl rfl ⟨Nat.le_of_ble_eq_true rfl, Nat.le_of_ble_eq_true rfl, rfl, Nat.le_of_ble_eq_true rfl⟩ (k_X7_readText (d) h1) (show Rn N xs (d + 9) me149 8 [some (.ref 0), some (.int a1), none] [(.int v3)] (SH, s2) r from ?_)
  extract_lets +onlyGivenNames s4 at hJ
  refine Rn_sq srt149 4 7 (pc' := (if v3 = 0 then 21 else 23)) (ls' := [some (.ref 0), some (.int a1), some (.int v3)]) (st' := []) (h1 := (SH, s4)) rfl (Rn_if (fun h5 => ?_) (fun h5 => ?_))
  · replace hJ := m_ifp h5 hJ
    refine Rn_sq srt149 11 1 (pc' := 22) (ls' := [some (.ref 0), some (.int a1), some (.int v3)]) (st' := [(.int (ci (-1)))]) (h1 := (SH, s4)) rfl ?_
    rw [← Option.some.inj hJ] at hC
    have hC : r = (some (.int (ci (-1))), (SH, s4)) := hC
    subst hC
    exact Rn_ret srt149 12 rfl rfl rfl
  · replace hJ := m_ifn h5 hJ
    refine Rn_sq srt149 13 2 (pc' := (if a1 = 0 then 27 else 72)) (ls' := [some (.ref 0), some (.int a1), some (.int v3)]) (st' := []) (h1 := (SH, s4)) rfl (Rn_if (fun h6 => ?_) (fun h6 => ?_))
    · replace hJ := m_ifp h6 hJ
      refine Rn_sq srt149 15 6 (pc' := 41) (ls' := [some (.ref 0), some (.int a1), some (.int v3)]) (st' := [(.ref 56), (.ref 6)]) (h1 := (SH, s4)) rfl ?_
      obtain ⟨s8, h7, hJ⟩ := m_b1 hJ
      refine Rn_call srt149 21 rfl rfl rfl ⟨Nat.le_of_ble_eq_true rfl, Nat.le_of_ble_eq_true rfl, rfl, Nat.le_of_ble_eq_true rfl⟩ (k_X10_copyFrom 6 56 (d + 8) isT_6 isT_56 h7) (show Rn N xs (d + 9) me149 44 [some (.ref 0), some (.int a1), some (.int v3)] [] (SH, s8) r from ?_)
      refine Rn_sq srt149 22 6 (pc' := 58) (ls' := [some (.ref 0), some (.int a1), some (.int v3)]) (st' := [(.ref 58), (.ref 8)]) (h1 := (SH, s8)) rfl ?_
      obtain ⟨s10, h9, hJ⟩ := m_b1 hJ
      refine Rn_call srt149 28 rfl rfl rfl ⟨Nat.le_of_ble_eq_true rfl, Nat.le_of_ble_eq_true rfl, rfl, Nat.le_of_ble_eq_true rfl⟩ (k_X10_copyFrom 8 58 (d + 8) isT_8 isT_58 h9) (show Rn N xs (d + 9) me149 61 [some (.ref 0), some (.int a1), some (.int v3)] [] (SH, s10) r from ?_)
      refine Rn_sq srt149 29 4 (pc' := 71) (ls' := [some (.ref 0), some (.int a1), some (.int v3)]) (st' := [(.int (s10.1 6 3))]) (h1 := (SH, s10)) rfl ?_
      rw [← Option.some.inj hJ] at hC
      have hC : r = (some (.int (s10.1 6 3)), (SH, s10)) := hC
      subst hC
      exact Rn_ret srt149 33 rfl rfl rfl
    · replace hJ := m_ifn h6 hJ
      refine Rn_sq srt149 34 2 (pc' := 76) (ls' := [some (.ref 0), some (.int a1), some (.int v3)]) (st' := [(.ref 35)]) (h1 := (SH, s4)) rfl ?_
      obtain ⟨s12, h11, hJ⟩ := m_b1 hJ
      refine Rn_call srt149 36 rfl rfl rfl ⟨Nat.le_of_ble_eq_true rfl, Nat.le_of_ble_eq_true rfl, rfl, Nat.le_of_ble_eq_true rfl⟩ (k_X5_forget (d + 8) h11) (show Rn N xs (d + 9) me149 79 [some (.ref 0), some (.int a1), some (.int v3)] [] (SH, s12) r from ?_)
      refine Rn_sq srt149 37 3 (pc' := (if a1 = (ci 1) then 84 else 119)) (ls' := [some (.ref 0), some (.int a1), some (.int v3)]) (st' := []) (h1 := (SH, s12)) rfl (Rn_if (fun h13 => ?_) (fun h13 => ?_))
      · replace hJ := m_ifp h13 hJ
        refine Rn_sq srt149 40 6 (pc' := 98) (ls' := [some (.ref 0), some (.int a1), some (.int v3)]) (st' := [(.ref 60), (.ref 10)]) (h1 := (SH, s12)) rfl ?_
        obtain ⟨s15, h14, hJ⟩ := m_b1 hJ
        refine Rn_call srt149 46 rfl rfl rfl ⟨Nat.le_of_ble_eq_true rfl, Nat.le_of_ble_eq_true rfl, rfl, Nat.le_of_ble_eq_true rfl⟩ (k_X10_copyFrom 10 60 (d + 8) isT_10 isT_60 h14) (show Rn N xs (d + 9) me149 101 [some (.ref 0), some (.int a1), some (.int v3)] [] (SH, s15) r from ?_)
        refine Rn_sq srt149 47 2 (pc' := 105) (ls' := [some (.ref 0), some (.int a1), some (.int v3)]) (st' := [(.ref 1)]) (h1 := (SH, s15)) rfl ?_
        obtain ⟨s17, h16, hJ⟩ := m_b1 hJ
        refine Rn_call srt149 49 rfl rfl rfl ⟨Nat.le_of_ble_eq_true rfl, Nat.le_of_ble_eq_true rfl, rfl, Nat.le_of_ble_eq_true rfl⟩ (k_X2_forgetSeen 1 (d + 6) isH_1 h16) (show Rn N xs (d + 9) me149 108 [some (.ref 0), some (.int a1), some (.int v3)] [] (SH, s17) r from ?_)
        refine Rn_sq srt149 50 4 (pc' := 118) (ls' := [some (.ref 0), some (.int a1), some (.int v3)]) (st' := [(.int (s17.1 10 3))]) (h1 := (SH, s17)) rfl ?_
        rw [← Option.some.inj hJ] at hC
        have hC : r = (some (.int (s17.1 10 3)), (SH, s17)) := hC
        subst hC
        exact Rn_ret srt149 54 rfl rfl rfl
      · replace hJ := m_ifn h13 hJ
        refine Rn_sq srt149 55 6 (pc' := 133) (ls' := [some (.ref 0), some (.int a1), some (.int v3)]) (st' := [(.ref 62), (.ref 12)]) (h1 := (SH, s12)) rfl ?_
        obtain ⟨s19, h18, hJ⟩ := m_b1 hJ
        refine Rn_call srt149 61 rfl rfl rfl ⟨Nat.le_of_ble_eq_true rfl, Nat.le_of_ble_eq_true rfl, rfl, Nat.le_of_ble_eq_true rfl⟩ (k_X10_copyFrom 12 62 (d + 8) isT_12 isT_62 h18) (show Rn N xs (d + 9) me149 136 [some (.ref 0), some (.int a1), some (.int v3)] [] (SH, s19) r from ?_)
        refine Rn_sq srt149 62 4 (pc' := 146) (ls' := [some (.ref 0), some (.int a1), some (.int v3)]) (st' := [(.int (s19.1 12 3))]) (h1 := (SH, s19)) rfl ?_
        rw [← Option.some.inj hJ] at hC
        have hC : r = (some (.int (s19.1 12 3)), (SH, s19)) := hC
        subst hC
        exact Rn_ret srt149 66 rfl rfl rfl
theorem k_X11_text {N : Nat} {xs : Nat → Int32} (d : Nat) {s : mG} {a1 : Int32} {τ : (Int32 × mG)} (hJ : F_X11_text a1 s = some τ) : Rn N xs (d + 9) me149 0 [some (.ref 0), some (.int a1), none] [] (SH, s) (some (.int τ.1), (SH, τ.2)) := k_X11_text_r d hJ rfl
/-! IsHeIn.fault(I)I -/
theorem srt150 : m_srt mc150 = true := by decide +kernel
def F_X11_fault (s : mG) (a1 : Int32) : Option (Int32) :=
  if a1 = 0 then
    some (s.1 55 10)
  else
    if a1 = (ci 1) then
      some (s.1 55 11)
    else
      some (ci (-1))
set_option maxRecDepth 4000 in
theorem k_X11_fault_r {N : Nat} {xs : Nat → Int32} (d : Nat) {r : Option Value × mH} {s : mG} {a1 : Int32} {τ : (Int32)} (hJ : F_X11_fault s a1 = some τ) (hC : (fun τ => r = (some (.int τ), (SH, s))) τ) : Rn N xs (d + 0) me150 0 [some (.ref 0), some (.int a1)] [] (SH, s) r := by
  unfold F_X11_fault at hJ
  refine Rn_sq srt150 0 2 (pc' := (if a1 = 0 then 4 else 12)) (ls' := [some (.ref 0), some (.int a1)]) (st' := []) (h1 := (SH, s)) rfl (Rn_if (fun h1 => ?_) (fun h1 => ?_))
  · replace hJ := m_ifp h1 hJ
    refine Rn_sq srt150 2 3 (pc' := 11) (ls' := [some (.ref 0), some (.int a1)]) (st' := [(.int (s.1 55 10))]) (h1 := (SH, s)) rfl ?_
    rw [← Option.some.inj hJ] at hC
    have hC : r = (some (.int (s.1 55 10)), (SH, s)) := hC
    subst hC
    exact Rn_ret srt150 5 rfl rfl rfl
  · replace hJ := m_ifn h1 hJ
    refine Rn_sq srt150 6 3 (pc' := (if a1 = (ci 1) then 17 else 27)) (ls' := [some (.ref 0), some (.int a1)]) (st' := []) (h1 := (SH, s)) rfl (Rn_if (fun h2 => ?_) (fun h2 => ?_))
    · replace hJ := m_ifp h2 hJ
      refine Rn_sq srt150 9 4 (pc' := 28) (ls' := [some (.ref 0), some (.int a1)]) (st' := [(.int (s.1 55 11))]) (h1 := (SH, s)) rfl ?_
      rw [← Option.some.inj hJ] at hC
      have hC : r = (some (.int (s.1 55 11)), (SH, s)) := hC
      subst hC
      exact Rn_ret srt150 14 rfl rfl rfl
    · replace hJ := m_ifn h2 hJ
      refine Rn_sq srt150 13 1 (pc' := 28) (ls' := [some (.ref 0), some (.int a1)]) (st' := [(.int (ci (-1)))]) (h1 := (SH, s)) rfl ?_
      rw [← Option.some.inj hJ] at hC
      have hC : r = (some (.int (ci (-1))), (SH, s)) := hC
      subst hC
      exact Rn_ret srt150 14 rfl rfl rfl
theorem k_X11_fault {N : Nat} {xs : Nat → Int32} (d : Nat) {s : mG} {a1 : Int32} {τ : (Int32)} (hJ : F_X11_fault s a1 = some τ) : Rn N xs (d + 0) me150 0 [some (.ref 0), some (.int a1)] [] (SH, s) (some (.int τ), (SH, s)) := k_X11_fault_r d hJ rfl
/-! IsHeIn.caller(III)I -/
theorem srt151 : m_srt mc151 = true := by decide +kernel
def F_X11_caller_63 (s : mG) : Option (Int32 × mG) :=
  some ((ci (-1)), s)
set_option maxRecDepth 4000 in
theorem k_X11_caller_63 {N : Nat} {xs : Nat → Int32} (d : Nat) {r : Option Value × mH} {s : mG} {τ : (Int32 × mG)} (hJ : F_X11_caller_63 s = some τ) (hC : (fun τ => r = (some (.int τ.1), (SH, τ.2))) τ) : Rn N xs (d + 2) me151 63 [none, none, none, none, none] [] (SH, s) r := by
  unfold F_X11_caller_63 at hJ
  refine Rn_sq srt151 29 1 (pc' := 64) (ls' := [none, none, none, none, none]) (st' := [(.int (ci (-1)))]) (h1 := (SH, s)) rfl ?_
  rw [← Option.some.inj hJ] at hC
  have hC : r = (some (.int (ci (-1))), (SH, s)) := hC
  subst hC
  exact Rn_ret srt151 30 rfl rfl rfl
def F_X11_caller (a1 : Int32) (a2 : Int32) (a3 : Int32) (s : mG) : Option (Int32 × mG) :=
  if a1 = (ci (-1)) then
    b1 (F_X10_clear 16 s) fun s3 =>
    some ((ci 0), s3)
  else
    b1 (F_X2_isGuest 1 s a1) fun v5 =>
    if v5 = 0 then
      F_X11_caller_63 s
    else
      b1 (F_X11_isWithin s a2 (ci 0) (c16 999)) fun v8 =>
      if v8 = 0 then
        F_X11_caller_63 s
      else
        b1 (F_X11_isWithin s a3 (ci 0) (c16 999)) fun v11 =>
        if v11 = 0 then
          F_X11_caller_63 s
        else
          b1 (F_X10_isFull 16 s) fun v14 =>
          if v14 = 0 then
            b2 (F_X10_add 16 s) fun v18 s17 =>
            b1 (F_X10_put 16 v18 (ci 0) a1 s17) fun s20 =>
            b1 (F_X10_put 16 v18 (ci 1) a2 s20) fun s22 =>
            b1 (F_X10_put 16 v18 (ci 2) a3 s22) fun s24 =>
            some ((s24.1 16 3), s24)
          else
            F_X11_caller_63 s
set_option maxRecDepth 4000 in
theorem k_X11_caller_r {N : Nat} {xs : Nat → Int32} (d : Nat) {r : Option Value × mH} {s : mG} {a1 : Int32} {a2 : Int32} {a3 : Int32} {τ : (Int32 × mG)} (hJ : F_X11_caller a1 a2 a3 s = some τ) (hC : (fun τ => r = (some (.int τ.1), (SH, τ.2))) τ) : Rn N xs (d + 2) me151 0 [some (.ref 0), some (.int a1), some (.int a2), some (.int a3), none] [] (SH, s) r := by
  unfold F_X11_caller at hJ
  refine Rn_sq srt151 0 3 (pc' := (if a1 = (ci (-1)) then 5 else 17)) (ls' := [some (.ref 0), some (.int a1), some (.int a2), some (.int a3), none]) (st' := []) (h1 := (SH, s)) rfl (Rn_if (fun h1 => ?_) (fun h1 => ?_))
  · replace hJ := m_ifp h1 hJ
    refine Rn_sq srt151 3 3 (pc' := 12) (ls' := [some (.ref 0), some (.int a1), some (.int a2), some (.int a3), none]) (st' := [(.ref 16)]) (h1 := (SH, s)) rfl ?_
    obtain ⟨s3, h2, hJ⟩ := m_b1 hJ
    refine Rn_call srt151 6 rfl rfl rfl ⟨Nat.le_of_ble_eq_true rfl, Nat.le_of_ble_eq_true rfl, rfl, Nat.le_of_ble_eq_true rfl⟩ (k_X10_clear 16 (d + 1) isT_16 h2) (show Rn N xs (d + 2) me151 15 [some (.ref 0), some (.int a1), some (.int a2), some (.int a3), none] [] (SH, s3) r from ?_)
    refine Rn_sq srt151 7 1 (pc' := 16) (ls' := [some (.ref 0), some (.int a1), some (.int a2), some (.int a3), none]) (st' := [(.int (ci 0))]) (h1 := (SH, s3)) rfl ?_
    rw [← Option.some.inj hJ] at hC
    have hC : r = (some (.int (ci 0)), (SH, s3)) := hC
    subst hC
    exact Rn_ret srt151 8 rfl rfl rfl
  · replace hJ := m_ifn h1 hJ
    refine Rn_sq srt151 9 3 (pc' := 22) (ls' := [some (.ref 0), some (.int a1), some (.int a2), some (.int a3), none]) (st' := [(.int a1), (.ref 1)]) (h1 := (SH, s)) rfl ?_
    obtain ⟨v5, h4, hJ⟩ := m_b1 hJ
    refine Rn_call srt151 12 rfl rfl rfl ⟨Nat.le_of_ble_eq_true rfl, Nat.le_of_ble_eq_true rfl, rfl, Nat.le_of_ble_eq_true rfl⟩ (k_X2_isGuest 1 (d) isH_1 h4) (show Rn N xs (d + 2) me151 25 [some (.ref 0), some (.int a1), some (.int a2), some (.int a3), none] [(.int v5)] (SH, s) r from ?_)
    refine Rn_sq srt151 13 1 (pc' := (if v5 = 0 then 63 else 28)) (ls' := [some (.ref 0), some (.int a1), some (.int a2), some (.int a3), none]) (st' := []) (h1 := (SH, s)) rfl (Rn_if (fun h6 => ?_) (fun h6 => ?_))
    · replace hJ := m_ifp h6 hJ
      exact Rn_weaken (a := [none, none, none, none, none]) (b := [some (.ref 0), some (.int a1), some (.int a2), some (.int a3), none]) trivial rfl (k_X11_caller_63 d hJ hC)
    · replace hJ := m_ifn h6 hJ
      refine Rn_sq srt151 14 3 (pc' := 33) (ls' := [some (.ref 0), some (.int a1), some (.int a2), some (.int a3), none]) (st' := [(.int (c16 999)), (.int (ci 0)), (.int a2)]) (h1 := (SH, s)) rfl ?_
      obtain ⟨v8, h7, hJ⟩ := m_b1 hJ
      refine Rn_call srt151 17 rfl rfl rfl ⟨Nat.le_of_ble_eq_true rfl, Nat.le_of_ble_eq_true rfl, rfl, Nat.le_of_ble_eq_true rfl⟩ (k_X11_isWithin (d + 1) h7) (show Rn N xs (d + 2) me151 36 [some (.ref 0), some (.int a1), some (.int a2), some (.int a3), none] [(.int v8)] (SH, s) r from ?_)
      refine Rn_sq srt151 18 1 (pc' := (if v8 = 0 then 63 else 39)) (ls' := [some (.ref 0), some (.int a1), some (.int a2), some (.int a3), none]) (st' := []) (h1 := (SH, s)) rfl (Rn_if (fun h9 => ?_) (fun h9 => ?_))
      · replace hJ := m_ifp h9 hJ
        exact Rn_weaken (a := [none, none, none, none, none]) (b := [some (.ref 0), some (.int a1), some (.int a2), some (.int a3), none]) trivial rfl (k_X11_caller_63 d hJ hC)
      · replace hJ := m_ifn h9 hJ
        refine Rn_sq srt151 19 3 (pc' := 44) (ls' := [some (.ref 0), some (.int a1), some (.int a2), some (.int a3), none]) (st' := [(.int (c16 999)), (.int (ci 0)), (.int a3)]) (h1 := (SH, s)) rfl ?_
        obtain ⟨v11, h10, hJ⟩ := m_b1 hJ
        refine Rn_call srt151 22 rfl rfl rfl ⟨Nat.le_of_ble_eq_true rfl, Nat.le_of_ble_eq_true rfl, rfl, Nat.le_of_ble_eq_true rfl⟩ (k_X11_isWithin (d + 1) h10) (show Rn N xs (d + 2) me151 47 [some (.ref 0), some (.int a1), some (.int a2), some (.int a3), none] [(.int v11)] (SH, s) r from ?_)
        refine Rn_sq srt151 23 1 (pc' := (if v11 = 0 then 63 else 50)) (ls' := [some (.ref 0), some (.int a1), some (.int a2), some (.int a3), none]) (st' := []) (h1 := (SH, s)) rfl (Rn_if (fun h12 => ?_) (fun h12 => ?_))
        · replace hJ := m_ifp h12 hJ
          exact Rn_weaken (a := [none, none, none, none, none]) (b := [some (.ref 0), some (.int a1), some (.int a2), some (.int a3), none]) trivial rfl (k_X11_caller_63 d hJ hC)
        · replace hJ := m_ifn h12 hJ
          refine Rn_sq srt151 24 3 (pc' := 57) (ls' := [some (.ref 0), some (.int a1), some (.int a2), some (.int a3), none]) (st' := [(.ref 16)]) (h1 := (SH, s)) rfl ?_
          obtain ⟨v14, h13, hJ⟩ := m_b1 hJ
          refine Rn_call srt151 27 rfl rfl rfl ⟨Nat.le_of_ble_eq_true rfl, Nat.le_of_ble_eq_true rfl, rfl, Nat.le_of_ble_eq_true rfl⟩ (k_X10_isFull 16 (d + 1) isT_16 h13) (show Rn N xs (d + 2) me151 60 [some (.ref 0), some (.int a1), some (.int a2), some (.int a3), none] [(.int v14)] (SH, s) r from ?_)
          refine Rn_sq srt151 28 1 (pc' := (if v14 = 0 then 65 else 63)) (ls' := [some (.ref 0), some (.int a1), some (.int a2), some (.int a3), none]) (st' := []) (h1 := (SH, s)) rfl (Rn_if (fun h15 => ?_) (fun h15 => ?_))
          · replace hJ := m_ifp h15 hJ
            refine Rn_sq srt151 31 3 (pc' := 72) (ls' := [some (.ref 0), some (.int a1), some (.int a2), some (.int a3), none]) (st' := [(.ref 16)]) (h1 := (SH, s)) rfl ?_
            obtain ⟨v18, s17, h16, hJ⟩ := m_b2 hJ
            refine Rn_call srt151 34 rfl rfl rfl ⟨Nat.le_of_ble_eq_true rfl, Nat.le_of_ble_eq_true rfl, rfl, Nat.le_of_ble_eq_true rfl⟩ (k_X10_add 16 (d) isT_16 h16) (show Rn N xs (d + 2) me151 75 [some (.ref 0), some (.int a1), some (.int a2), some (.int a3), none] [(.int v18)] (SH, s17) r from ?_)
            refine Rn_sq srt151 35 7 (pc' := 88) (ls' := [some (.ref 0), some (.int a1), some (.int a2), some (.int a3), some (.int v18)]) (st' := [(.int a1), (.int (ci 0)), (.int v18), (.ref 16)]) (h1 := (SH, s17)) rfl ?_
            obtain ⟨s20, h19, hJ⟩ := m_b1 hJ
            refine Rn_call srt151 42 rfl rfl rfl ⟨Nat.le_of_ble_eq_true rfl, Nat.le_of_ble_eq_true rfl, rfl, Nat.le_of_ble_eq_true rfl⟩ (k_X10_put 16 (d + 1) isT_16 h19) (show Rn N xs (d + 2) me151 91 [some (.ref 0), some (.int a1), some (.int a2), some (.int a3), some (.int v18)] [] (SH, s20) r from ?_)
            refine Rn_sq srt151 43 6 (pc' := 102) (ls' := [some (.ref 0), some (.int a1), some (.int a2), some (.int a3), some (.int v18)]) (st' := [(.int a2), (.int (ci 1)), (.int v18), (.ref 16)]) (h1 := (SH, s20)) rfl ?_
            obtain ⟨s22, h21, hJ⟩ := m_b1 hJ
            refine Rn_call srt151 49 rfl rfl rfl ⟨Nat.le_of_ble_eq_true rfl, Nat.le_of_ble_eq_true rfl, rfl, Nat.le_of_ble_eq_true rfl⟩ (k_X10_put 16 (d + 1) isT_16 h21) (show Rn N xs (d + 2) me151 105 [some (.ref 0), some (.int a1), some (.int a2), some (.int a3), some (.int v18)] [] (SH, s22) r from ?_)
            refine Rn_sq srt151 50 6 (pc' := 116) (ls' := [some (.ref 0), some (.int a1), some (.int a2), some (.int a3), some (.int v18)]) (st' := [(.int a3), (.int (ci 2)), (.int v18), (.ref 16)]) (h1 := (SH, s22)) rfl ?_
            obtain ⟨s24, h23, hJ⟩ := m_b1 hJ
            refine Rn_call srt151 56 rfl rfl rfl ⟨Nat.le_of_ble_eq_true rfl, Nat.le_of_ble_eq_true rfl, rfl, Nat.le_of_ble_eq_true rfl⟩ (k_X10_put 16 (d + 1) isT_16 h23) (show Rn N xs (d + 2) me151 119 [some (.ref 0), some (.int a1), some (.int a2), some (.int a3), some (.int v18)] [] (SH, s24) r from ?_)
            refine Rn_sq srt151 57 4 (pc' := 129) (ls' := [some (.ref 0), some (.int a1), some (.int a2), some (.int a3), some (.int v18)]) (st' := [(.int (s24.1 16 3))]) (h1 := (SH, s24)) rfl ?_
            rw [← Option.some.inj hJ] at hC
            have hC : r = (some (.int (s24.1 16 3)), (SH, s24)) := hC
            subst hC
            exact Rn_ret srt151 61 rfl rfl rfl
          · replace hJ := m_ifn h15 hJ
            exact Rn_weaken (a := [none, none, none, none, none]) (b := [some (.ref 0), some (.int a1), some (.int a2), some (.int a3), none]) trivial rfl (k_X11_caller_63 d hJ hC)
theorem k_X11_caller {N : Nat} {xs : Nat → Int32} (d : Nat) {s : mG} {a1 : Int32} {a2 : Int32} {a3 : Int32} {τ : (Int32 × mG)} (hJ : F_X11_caller a1 a2 a3 s = some τ) : Rn N xs (d + 2) me151 0 [some (.ref 0), some (.int a1), some (.int a2), some (.int a3), none] [] (SH, s) (some (.int τ.1), (SH, τ.2)) := k_X11_caller_r d hJ rfl
/-! IsHeIn.room(IIII)I -/
theorem srt152 : m_srt mc152 = true := by decide +kernel
def F_X11_room_73 (s : mG) : Option (Int32 × mG) :=
  some ((ci (-1)), s)
set_option maxRecDepth 4000 in
theorem k_X11_room_73 {N : Nat} {xs : Nat → Int32} (d : Nat) {r : Option Value × mH} {s : mG} {τ : (Int32 × mG)} (hJ : F_X11_room_73 s = some τ) (hC : (fun τ => r = (some (.int τ.1), (SH, τ.2))) τ) : Rn N xs (d + 2) me152 73 [none, none, none, none, none, none] [] (SH, s) r := by
  unfold F_X11_room_73 at hJ
  refine Rn_sq srt152 34 1 (pc' := 74) (ls' := [none, none, none, none, none, none]) (st' := [(.int (ci (-1)))]) (h1 := (SH, s)) rfl ?_
  rw [← Option.some.inj hJ] at hC
  have hC : r = (some (.int (ci (-1))), (SH, s)) := hC
  subst hC
  exact Rn_ret srt152 35 rfl rfl rfl
def F_X11_room (a1 : Int32) (a2 : Int32) (a3 : Int32) (a4 : Int32) (s : mG) : Option (Int32 × mG) :=
  if a1 = (ci (-1)) then
    b1 (F_X10_clear 14 s) fun s3 =>
    some ((ci 0), s3)
  else
    b1 (F_X2_isGuest 1 s a1) fun v5 =>
    if v5 = 0 then
      F_X11_room_73 s
    else
      b1 (F_X11_isWithin s a2 (ci 1) (c8 99)) fun v8 =>
      if v8 = 0 then
        F_X11_room_73 s
      else
        b1 (F_X11_isWithin s a3 (ci 1) (c16 999)) fun v11 =>
        if v11 = 0 then
          F_X11_room_73 s
        else
          b1 (F_X11_isWithin s a4 (ci 0) (c8 99)) fun v14 =>
          if v14 = 0 then
            F_X11_room_73 s
          else
            b1 (F_X10_isFull 14 s) fun v17 =>
            if v17 = 0 then
              b2 (F_X10_add 14 s) fun v21 s20 =>
              b1 (F_X10_put 14 v21 (ci 0) a1 s20) fun s23 =>
              b1 (F_X10_put 14 v21 (ci 1) a2 s23) fun s25 =>
              b1 (F_X10_put 14 v21 (ci 2) a3 s25) fun s27 =>
              b1 (F_X10_put 14 v21 (ci 3) a4 s27) fun s29 =>
              some ((s29.1 14 3), s29)
            else
              F_X11_room_73 s
set_option maxRecDepth 4000 in
theorem k_X11_room_r {N : Nat} {xs : Nat → Int32} (d : Nat) {r : Option Value × mH} {s : mG} {a1 : Int32} {a2 : Int32} {a3 : Int32} {a4 : Int32} {τ : (Int32 × mG)} (hJ : F_X11_room a1 a2 a3 a4 s = some τ) (hC : (fun τ => r = (some (.int τ.1), (SH, τ.2))) τ) : Rn N xs (d + 2) me152 0 [some (.ref 0), some (.int a1), some (.int a2), some (.int a3), some (.int a4), none] [] (SH, s) r := by
  unfold F_X11_room at hJ
  refine Rn_sq srt152 0 3 (pc' := (if a1 = (ci (-1)) then 5 else 17)) (ls' := [some (.ref 0), some (.int a1), some (.int a2), some (.int a3), some (.int a4), none]) (st' := []) (h1 := (SH, s)) rfl (Rn_if (fun h1 => ?_) (fun h1 => ?_))
  · replace hJ := m_ifp h1 hJ
    refine Rn_sq srt152 3 3 (pc' := 12) (ls' := [some (.ref 0), some (.int a1), some (.int a2), some (.int a3), some (.int a4), none]) (st' := [(.ref 14)]) (h1 := (SH, s)) rfl ?_
    obtain ⟨s3, h2, hJ⟩ := m_b1 hJ
    refine Rn_call srt152 6 rfl rfl rfl ⟨Nat.le_of_ble_eq_true rfl, Nat.le_of_ble_eq_true rfl, rfl, Nat.le_of_ble_eq_true rfl⟩ (k_X10_clear 14 (d + 1) isT_14 h2) (show Rn N xs (d + 2) me152 15 [some (.ref 0), some (.int a1), some (.int a2), some (.int a3), some (.int a4), none] [] (SH, s3) r from ?_)
    refine Rn_sq srt152 7 1 (pc' := 16) (ls' := [some (.ref 0), some (.int a1), some (.int a2), some (.int a3), some (.int a4), none]) (st' := [(.int (ci 0))]) (h1 := (SH, s3)) rfl ?_
    rw [← Option.some.inj hJ] at hC
    have hC : r = (some (.int (ci 0)), (SH, s3)) := hC
    subst hC
    exact Rn_ret srt152 8 rfl rfl rfl
  · replace hJ := m_ifn h1 hJ
    refine Rn_sq srt152 9 3 (pc' := 22) (ls' := [some (.ref 0), some (.int a1), some (.int a2), some (.int a3), some (.int a4), none]) (st' := [(.int a1), (.ref 1)]) (h1 := (SH, s)) rfl ?_
    obtain ⟨v5, h4, hJ⟩ := m_b1 hJ
    refine Rn_call srt152 12 rfl rfl rfl ⟨Nat.le_of_ble_eq_true rfl, Nat.le_of_ble_eq_true rfl, rfl, Nat.le_of_ble_eq_true rfl⟩ (k_X2_isGuest 1 (d) isH_1 h4) (show Rn N xs (d + 2) me152 25 [some (.ref 0), some (.int a1), some (.int a2), some (.int a3), some (.int a4), none] [(.int v5)] (SH, s) r from ?_)
    refine Rn_sq srt152 13 1 (pc' := (if v5 = 0 then 73 else 28)) (ls' := [some (.ref 0), some (.int a1), some (.int a2), some (.int a3), some (.int a4), none]) (st' := []) (h1 := (SH, s)) rfl (Rn_if (fun h6 => ?_) (fun h6 => ?_))
    · replace hJ := m_ifp h6 hJ
      exact Rn_weaken (a := [none, none, none, none, none, none]) (b := [some (.ref 0), some (.int a1), some (.int a2), some (.int a3), some (.int a4), none]) trivial rfl (k_X11_room_73 d hJ hC)
    · replace hJ := m_ifn h6 hJ
      refine Rn_sq srt152 14 3 (pc' := 32) (ls' := [some (.ref 0), some (.int a1), some (.int a2), some (.int a3), some (.int a4), none]) (st' := [(.int (c8 99)), (.int (ci 1)), (.int a2)]) (h1 := (SH, s)) rfl ?_
      obtain ⟨v8, h7, hJ⟩ := m_b1 hJ
      refine Rn_call srt152 17 rfl rfl rfl ⟨Nat.le_of_ble_eq_true rfl, Nat.le_of_ble_eq_true rfl, rfl, Nat.le_of_ble_eq_true rfl⟩ (k_X11_isWithin (d + 1) h7) (show Rn N xs (d + 2) me152 35 [some (.ref 0), some (.int a1), some (.int a2), some (.int a3), some (.int a4), none] [(.int v8)] (SH, s) r from ?_)
      refine Rn_sq srt152 18 1 (pc' := (if v8 = 0 then 73 else 38)) (ls' := [some (.ref 0), some (.int a1), some (.int a2), some (.int a3), some (.int a4), none]) (st' := []) (h1 := (SH, s)) rfl (Rn_if (fun h9 => ?_) (fun h9 => ?_))
      · replace hJ := m_ifp h9 hJ
        exact Rn_weaken (a := [none, none, none, none, none, none]) (b := [some (.ref 0), some (.int a1), some (.int a2), some (.int a3), some (.int a4), none]) trivial rfl (k_X11_room_73 d hJ hC)
      · replace hJ := m_ifn h9 hJ
        refine Rn_sq srt152 19 3 (pc' := 43) (ls' := [some (.ref 0), some (.int a1), some (.int a2), some (.int a3), some (.int a4), none]) (st' := [(.int (c16 999)), (.int (ci 1)), (.int a3)]) (h1 := (SH, s)) rfl ?_
        obtain ⟨v11, h10, hJ⟩ := m_b1 hJ
        refine Rn_call srt152 22 rfl rfl rfl ⟨Nat.le_of_ble_eq_true rfl, Nat.le_of_ble_eq_true rfl, rfl, Nat.le_of_ble_eq_true rfl⟩ (k_X11_isWithin (d + 1) h10) (show Rn N xs (d + 2) me152 46 [some (.ref 0), some (.int a1), some (.int a2), some (.int a3), some (.int a4), none] [(.int v11)] (SH, s) r from ?_)
        refine Rn_sq srt152 23 1 (pc' := (if v11 = 0 then 73 else 49)) (ls' := [some (.ref 0), some (.int a1), some (.int a2), some (.int a3), some (.int a4), none]) (st' := []) (h1 := (SH, s)) rfl (Rn_if (fun h12 => ?_) (fun h12 => ?_))
        · replace hJ := m_ifp h12 hJ
          exact Rn_weaken (a := [none, none, none, none, none, none]) (b := [some (.ref 0), some (.int a1), some (.int a2), some (.int a3), some (.int a4), none]) trivial rfl (k_X11_room_73 d hJ hC)
        · replace hJ := m_ifn h12 hJ
          refine Rn_sq srt152 24 3 (pc' := 54) (ls' := [some (.ref 0), some (.int a1), some (.int a2), some (.int a3), some (.int a4), none]) (st' := [(.int (c8 99)), (.int (ci 0)), (.int a4)]) (h1 := (SH, s)) rfl ?_
          obtain ⟨v14, h13, hJ⟩ := m_b1 hJ
          refine Rn_call srt152 27 rfl rfl rfl ⟨Nat.le_of_ble_eq_true rfl, Nat.le_of_ble_eq_true rfl, rfl, Nat.le_of_ble_eq_true rfl⟩ (k_X11_isWithin (d + 1) h13) (show Rn N xs (d + 2) me152 57 [some (.ref 0), some (.int a1), some (.int a2), some (.int a3), some (.int a4), none] [(.int v14)] (SH, s) r from ?_)
          refine Rn_sq srt152 28 1 (pc' := (if v14 = 0 then 73 else 60)) (ls' := [some (.ref 0), some (.int a1), some (.int a2), some (.int a3), some (.int a4), none]) (st' := []) (h1 := (SH, s)) rfl (Rn_if (fun h15 => ?_) (fun h15 => ?_))
          · replace hJ := m_ifp h15 hJ
            exact Rn_weaken (a := [none, none, none, none, none, none]) (b := [some (.ref 0), some (.int a1), some (.int a2), some (.int a3), some (.int a4), none]) trivial rfl (k_X11_room_73 d hJ hC)
          · replace hJ := m_ifn h15 hJ
            refine Rn_sq srt152 29 3 (pc' := 67) (ls' := [some (.ref 0), some (.int a1), some (.int a2), some (.int a3), some (.int a4), none]) (st' := [(.ref 14)]) (h1 := (SH, s)) rfl ?_
            obtain ⟨v17, h16, hJ⟩ := m_b1 hJ
            refine Rn_call srt152 32 rfl rfl rfl ⟨Nat.le_of_ble_eq_true rfl, Nat.le_of_ble_eq_true rfl, rfl, Nat.le_of_ble_eq_true rfl⟩ (k_X10_isFull 14 (d + 1) isT_14 h16) (show Rn N xs (d + 2) me152 70 [some (.ref 0), some (.int a1), some (.int a2), some (.int a3), some (.int a4), none] [(.int v17)] (SH, s) r from ?_)
            refine Rn_sq srt152 33 1 (pc' := (if v17 = 0 then 75 else 73)) (ls' := [some (.ref 0), some (.int a1), some (.int a2), some (.int a3), some (.int a4), none]) (st' := []) (h1 := (SH, s)) rfl (Rn_if (fun h18 => ?_) (fun h18 => ?_))
            · replace hJ := m_ifp h18 hJ
              refine Rn_sq srt152 36 3 (pc' := 82) (ls' := [some (.ref 0), some (.int a1), some (.int a2), some (.int a3), some (.int a4), none]) (st' := [(.ref 14)]) (h1 := (SH, s)) rfl ?_
              obtain ⟨v21, s20, h19, hJ⟩ := m_b2 hJ
              refine Rn_call srt152 39 rfl rfl rfl ⟨Nat.le_of_ble_eq_true rfl, Nat.le_of_ble_eq_true rfl, rfl, Nat.le_of_ble_eq_true rfl⟩ (k_X10_add 14 (d) isT_14 h19) (show Rn N xs (d + 2) me152 85 [some (.ref 0), some (.int a1), some (.int a2), some (.int a3), some (.int a4), none] [(.int v21)] (SH, s20) r from ?_)
              refine Rn_sq srt152 40 7 (pc' := 98) (ls' := [some (.ref 0), some (.int a1), some (.int a2), some (.int a3), some (.int a4), some (.int v21)]) (st' := [(.int a1), (.int (ci 0)), (.int v21), (.ref 14)]) (h1 := (SH, s20)) rfl ?_
              obtain ⟨s23, h22, hJ⟩ := m_b1 hJ
              refine Rn_call srt152 47 rfl rfl rfl ⟨Nat.le_of_ble_eq_true rfl, Nat.le_of_ble_eq_true rfl, rfl, Nat.le_of_ble_eq_true rfl⟩ (k_X10_put 14 (d + 1) isT_14 h22) (show Rn N xs (d + 2) me152 101 [some (.ref 0), some (.int a1), some (.int a2), some (.int a3), some (.int a4), some (.int v21)] [] (SH, s23) r from ?_)
              refine Rn_sq srt152 48 6 (pc' := 112) (ls' := [some (.ref 0), some (.int a1), some (.int a2), some (.int a3), some (.int a4), some (.int v21)]) (st' := [(.int a2), (.int (ci 1)), (.int v21), (.ref 14)]) (h1 := (SH, s23)) rfl ?_
              obtain ⟨s25, h24, hJ⟩ := m_b1 hJ
              refine Rn_call srt152 54 rfl rfl rfl ⟨Nat.le_of_ble_eq_true rfl, Nat.le_of_ble_eq_true rfl, rfl, Nat.le_of_ble_eq_true rfl⟩ (k_X10_put 14 (d + 1) isT_14 h24) (show Rn N xs (d + 2) me152 115 [some (.ref 0), some (.int a1), some (.int a2), some (.int a3), some (.int a4), some (.int v21)] [] (SH, s25) r from ?_)
              refine Rn_sq srt152 55 6 (pc' := 126) (ls' := [some (.ref 0), some (.int a1), some (.int a2), some (.int a3), some (.int a4), some (.int v21)]) (st' := [(.int a3), (.int (ci 2)), (.int v21), (.ref 14)]) (h1 := (SH, s25)) rfl ?_
              obtain ⟨s27, h26, hJ⟩ := m_b1 hJ
              refine Rn_call srt152 61 rfl rfl rfl ⟨Nat.le_of_ble_eq_true rfl, Nat.le_of_ble_eq_true rfl, rfl, Nat.le_of_ble_eq_true rfl⟩ (k_X10_put 14 (d + 1) isT_14 h26) (show Rn N xs (d + 2) me152 129 [some (.ref 0), some (.int a1), some (.int a2), some (.int a3), some (.int a4), some (.int v21)] [] (SH, s27) r from ?_)
              refine Rn_sq srt152 62 6 (pc' := 141) (ls' := [some (.ref 0), some (.int a1), some (.int a2), some (.int a3), some (.int a4), some (.int v21)]) (st' := [(.int a4), (.int (ci 3)), (.int v21), (.ref 14)]) (h1 := (SH, s27)) rfl ?_
              obtain ⟨s29, h28, hJ⟩ := m_b1 hJ
              refine Rn_call srt152 68 rfl rfl rfl ⟨Nat.le_of_ble_eq_true rfl, Nat.le_of_ble_eq_true rfl, rfl, Nat.le_of_ble_eq_true rfl⟩ (k_X10_put 14 (d + 1) isT_14 h28) (show Rn N xs (d + 2) me152 144 [some (.ref 0), some (.int a1), some (.int a2), some (.int a3), some (.int a4), some (.int v21)] [] (SH, s29) r from ?_)
              refine Rn_sq srt152 69 4 (pc' := 154) (ls' := [some (.ref 0), some (.int a1), some (.int a2), some (.int a3), some (.int a4), some (.int v21)]) (st' := [(.int (s29.1 14 3))]) (h1 := (SH, s29)) rfl ?_
              rw [← Option.some.inj hJ] at hC
              have hC : r = (some (.int (s29.1 14 3)), (SH, s29)) := hC
              subst hC
              exact Rn_ret srt152 73 rfl rfl rfl
            · replace hJ := m_ifn h18 hJ
              exact Rn_weaken (a := [none, none, none, none, none, none]) (b := [some (.ref 0), some (.int a1), some (.int a2), some (.int a3), some (.int a4), none]) trivial rfl (k_X11_room_73 d hJ hC)
theorem k_X11_room {N : Nat} {xs : Nat → Int32} (d : Nat) {s : mG} {a1 : Int32} {a2 : Int32} {a3 : Int32} {a4 : Int32} {τ : (Int32 × mG)} (hJ : F_X11_room a1 a2 a3 a4 s = some τ) : Rn N xs (d + 2) me152 0 [some (.ref 0), some (.int a1), some (.int a2), some (.int a3), some (.int a4), none] [] (SH, s) (some (.int τ.1), (SH, τ.2)) := k_X11_room_r d hJ rfl
/-! IsHeIn.undo()Z -/
theorem srt153 : m_srt mc153 = true := by decide +kernel
def F_X11_undo (s : mG) : Option (Int32 × mG) :=
  b2 (F_X5_giveBack 1 s) fun v3 s2 =>
  if v3 = 0 ∨ v3 = 1 then
    some (v3, s2)
  else none
set_option maxRecDepth 4000 in
theorem k_X11_undo_r {N : Nat} {xs : Nat → Int32} (d : Nat) {r : Option Value × mH} {s : mG} {τ : (Int32 × mG)} (hJ : F_X11_undo s = some τ) (hC : (fun τ => r = (some (.int τ.1), (SH, τ.2))) τ) : Rn N xs (d + 3) me153 0 [some (.ref 0)] [] (SH, s) r := by
  unfold F_X11_undo at hJ
  refine Rn_sq srt153 0 4 (pc' := 8) (ls' := [some (.ref 0)]) (st' := [(.ref 1), (.ref 35)]) (h1 := (SH, s)) rfl ?_
  obtain ⟨v3, s2, h1, hJ⟩ := m_b2 hJ
  refine Rn_call srt153 4 rfl rfl rfl ⟨Nat.le_of_ble_eq_true rfl, Nat.le_of_ble_eq_true rfl, rfl, Nat.le_of_ble_eq_true rfl⟩ (k_X5_giveBack 1 (d) isH_1 h1) (show Rn N xs (d + 3) me153 11 [some (.ref 0)] [(.int v3)] (SH, s2) r from ?_)
  obtain ⟨h4, hJ⟩ := m_gp hJ
  rw [← Option.some.inj hJ] at hC
  have hC : r = (some (.int v3), (SH, s2)) := hC
  subst hC
  exact Rn_ret srt153 5 rfl rfl (m_ret_b rfl h4)
theorem k_X11_undo {N : Nat} {xs : Nat → Int32} (d : Nat) {s : mG} {τ : (Int32 × mG)} (hJ : F_X11_undo s = some τ) : Rn N xs (d + 3) me153 0 [some (.ref 0)] [] (SH, s) (some (.int τ.1), (SH, τ.2)) := k_X11_undo_r d hJ rfl
/-! IsHeIn.image(Z)Z -/
theorem srt154 : m_srt mc154 = true := by decide +kernel
def F_X11_image (a1 : Int32) (s : mG) : Option (Int32 × mG) :=
  if a1 = 0 then
    if (s.1 0 2) = 0 then
      some ((ci 0), s)
    else
      b1 (F_X2_copyFrom 1 18 s) fun s4 =>
      b1 (F_X5_forget s4) fun s6 =>
      some ((ci 1), s6)
  else
    b1 (F_X2_copyFrom 18 1 s) fun s8 =>
    let s9 : mG := (mu s8.1 0 2 (ci 1), s8.2)
    some ((ci 1), s9)
set_option maxRecDepth 4000 in
theorem k_X11_image_r {N : Nat} {xs : Nat → Int32} (d : Nat) {r : Option Value × mH} {s : mG} {a1 : Int32} {τ : (Int32 × mG)} (hJ : F_X11_image a1 s = some τ) (hC : (fun τ => r = (some (.int τ.1), (SH, τ.2))) τ) : Rn N xs (d + 2) me154 0 [some (.ref 0), some (.int a1)] [] (SH, s) r := by
  unfold F_X11_image at hJ
  refine Rn_sq srt154 0 2 (pc' := (if a1 = 0 then 22 else 4)) (ls' := [some (.ref 0), some (.int a1)]) (st' := []) (h1 := (SH, s)) rfl (Rn_if (fun h1 => ?_) (fun h1 => ?_))
  · replace hJ := m_ifp h1 hJ
    refine Rn_sq srt154 12 3 (pc' := (if (s.1 0 2) = 0 then 29 else 31)) (ls' := [some (.ref 0), some (.int a1)]) (st' := []) (h1 := (SH, s)) rfl (Rn_if (fun h2 => ?_) (fun h2 => ?_))
    · replace hJ := m_ifp h2 hJ
      refine Rn_sq srt154 15 1 (pc' := 30) (ls' := [some (.ref 0), some (.int a1)]) (st' := [(.int (ci 0))]) (h1 := (SH, s)) rfl ?_
      rw [← Option.some.inj hJ] at hC
      have hC : r = (some (.int (ci 0)), (SH, s)) := hC
      subst hC
      exact Rn_ret srt154 16 rfl rfl (m_ret_b rfl (by decide))
    · replace hJ := m_ifn h2 hJ
      refine Rn_sq srt154 17 4 (pc' := 39) (ls' := [some (.ref 0), some (.int a1)]) (st' := [(.ref 18), (.ref 1)]) (h1 := (SH, s)) rfl ?_
      obtain ⟨s4, h3, hJ⟩ := m_b1 hJ
      refine Rn_call srt154 21 rfl rfl rfl ⟨Nat.le_of_ble_eq_true rfl, Nat.le_of_ble_eq_true rfl, rfl, Nat.le_of_ble_eq_true rfl⟩ (k_X2_copyFrom 1 18 (d) isH_1 isH_18 h3) (show Rn N xs (d + 2) me154 42 [some (.ref 0), some (.int a1)] [] (SH, s4) r from ?_)
      refine Rn_sq srt154 22 2 (pc' := 46) (ls' := [some (.ref 0), some (.int a1)]) (st' := [(.ref 35)]) (h1 := (SH, s4)) rfl ?_
      obtain ⟨s6, h5, hJ⟩ := m_b1 hJ
      refine Rn_call srt154 24 rfl rfl rfl ⟨Nat.le_of_ble_eq_true rfl, Nat.le_of_ble_eq_true rfl, rfl, Nat.le_of_ble_eq_true rfl⟩ (k_X5_forget (d + 1) h5) (show Rn N xs (d + 2) me154 49 [some (.ref 0), some (.int a1)] [] (SH, s6) r from ?_)
      refine Rn_sq srt154 25 1 (pc' := 50) (ls' := [some (.ref 0), some (.int a1)]) (st' := [(.int (ci 1))]) (h1 := (SH, s6)) rfl ?_
      rw [← Option.some.inj hJ] at hC
      have hC : r = (some (.int (ci 1)), (SH, s6)) := hC
      subst hC
      exact Rn_ret srt154 26 rfl rfl (m_ret_b rfl (by decide))
  · replace hJ := m_ifn h1 hJ
    refine Rn_sq srt154 2 4 (pc' := 12) (ls' := [some (.ref 0), some (.int a1)]) (st' := [(.ref 1), (.ref 18)]) (h1 := (SH, s)) rfl ?_
    obtain ⟨s8, h7, hJ⟩ := m_b1 hJ
    refine Rn_call srt154 6 rfl rfl rfl ⟨Nat.le_of_ble_eq_true rfl, Nat.le_of_ble_eq_true rfl, rfl, Nat.le_of_ble_eq_true rfl⟩ (k_X2_copyFrom 18 1 (d) isH_18 isH_1 h7) (show Rn N xs (d + 2) me154 15 [some (.ref 0), some (.int a1)] [] (SH, s8) r from ?_)
    extract_lets +onlyGivenNames s9 at hJ
    refine Rn_sq srt154 7 4 (pc' := 21) (ls' := [some (.ref 0), some (.int a1)]) (st' := [(.int (ci 1))]) (h1 := (SH, s9)) rfl ?_
    rw [← Option.some.inj hJ] at hC
    have hC : r = (some (.int (ci 1)), (SH, s9)) := hC
    subst hC
    exact Rn_ret srt154 11 rfl rfl (m_ret_b rfl (by decide))
theorem k_X11_image {N : Nat} {xs : Nat → Int32} (d : Nat) {s : mG} {a1 : Int32} {τ : (Int32 × mG)} (hJ : F_X11_image a1 s = some τ) : Rn N xs (d + 2) me154 0 [some (.ref 0), some (.int a1)] [] (SH, s) (some (.int τ.1), (SH, τ.2)) := k_X11_image_r d hJ rfl
/-! IsHeIn.of(II)I -/
theorem srt155 : m_srt mc155 = true := by decide +kernel
def F_X11_of (a1 : Int32) (a2 : Int32) (s : mG) : Option (Int32 × mG) :=
  b1 (F_X2_isGuest 1 s a1) fun v2 =>
  if v2 = 0 then
    some ((c8 (-2)), s)
  else
    b1 (F_X11_isWithin s a2 (ci 0) (ci 4)) fun v5 =>
    if v5 = 0 then
      if a2 = (ci 5) then
        b2 (F_X0_sureOf a1 s) fun v10 s9 =>
        some (v10, s9)
      else
        b1 (F_X11_isWithin s a2 (c8 6) (c8 11)) fun v12 =>
        if v12 = 0 then
          some ((c8 (-2)), s)
        else
          b1 (F_X3_face a1 s) fun s15 =>
          b2 (F_X3_tells (a2 - (c8 6)) s15) fun v18 s17 =>
          some (v18, s17)
    else
      b1 (F_X10_at 2 s a1 a2) fun v20 =>
      some (v20, s)
set_option maxRecDepth 4000 in
theorem k_X11_of_r {N : Nat} {xs : Nat → Int32} (d : Nat) {r : Option Value × mH} {s : mG} {a1 : Int32} {a2 : Int32} {τ : (Int32 × mG)} (hJ : F_X11_of a1 a2 s = some τ) (hC : (fun τ => r = (some (.int τ.1), (SH, τ.2))) τ) : Rn N xs (d + 5) me155 0 [some (.ref 0), some (.int a1), some (.int a2)] [] (SH, s) r := by
  unfold F_X11_of at hJ
  refine Rn_sq srt155 0 3 (pc' := 5) (ls' := [some (.ref 0), some (.int a1), some (.int a2)]) (st' := [(.int a1), (.ref 1)]) (h1 := (SH, s)) rfl ?_
  obtain ⟨v2, h1, hJ⟩ := m_b1 hJ
  refine Rn_call srt155 3 rfl rfl rfl ⟨Nat.le_of_ble_eq_true rfl, Nat.le_of_ble_eq_true rfl, rfl, Nat.le_of_ble_eq_true rfl⟩ (k_X2_isGuest 1 (d + 3) isH_1 h1) (show Rn N xs (d + 5) me155 8 [some (.ref 0), some (.int a1), some (.int a2)] [(.int v2)] (SH, s) r from ?_)
  refine Rn_sq srt155 4 1 (pc' := (if v2 = 0 then 11 else 14)) (ls' := [some (.ref 0), some (.int a1), some (.int a2)]) (st' := []) (h1 := (SH, s)) rfl (Rn_if (fun h3 => ?_) (fun h3 => ?_))
  · replace hJ := m_ifp h3 hJ
    refine Rn_sq srt155 5 1 (pc' := 13) (ls' := [some (.ref 0), some (.int a1), some (.int a2)]) (st' := [(.int (c8 (-2)))]) (h1 := (SH, s)) rfl ?_
    rw [← Option.some.inj hJ] at hC
    have hC : r = (some (.int (c8 (-2))), (SH, s)) := hC
    subst hC
    exact Rn_ret srt155 6 rfl rfl rfl
  · replace hJ := m_ifn h3 hJ
    refine Rn_sq srt155 7 3 (pc' := 17) (ls' := [some (.ref 0), some (.int a1), some (.int a2)]) (st' := [(.int (ci 4)), (.int (ci 0)), (.int a2)]) (h1 := (SH, s)) rfl ?_
    obtain ⟨v5, h4, hJ⟩ := m_b1 hJ
    refine Rn_call srt155 10 rfl rfl rfl ⟨Nat.le_of_ble_eq_true rfl, Nat.le_of_ble_eq_true rfl, rfl, Nat.le_of_ble_eq_true rfl⟩ (k_X11_isWithin (d + 4) h4) (show Rn N xs (d + 5) me155 20 [some (.ref 0), some (.int a1), some (.int a2)] [(.int v5)] (SH, s) r from ?_)
    refine Rn_sq srt155 11 1 (pc' := (if v5 = 0 then 36 else 23)) (ls' := [some (.ref 0), some (.int a1), some (.int a2)]) (st' := []) (h1 := (SH, s)) rfl (Rn_if (fun h6 => ?_) (fun h6 => ?_))
    · replace hJ := m_ifp h6 hJ
      refine Rn_sq srt155 19 3 (pc' := (if a2 = (ci 5) then 41 else 50)) (ls' := [some (.ref 0), some (.int a1), some (.int a2)]) (st' := []) (h1 := (SH, s)) rfl (Rn_if (fun h7 => ?_) (fun h7 => ?_))
      · replace hJ := m_ifp h7 hJ
        refine Rn_sq srt155 22 3 (pc' := 46) (ls' := [some (.ref 0), some (.int a1), some (.int a2)]) (st' := [(.int a1), (.ref 73)]) (h1 := (SH, s)) rfl ?_
        obtain ⟨v10, s9, h8, hJ⟩ := m_b2 hJ
        refine Rn_call srt155 25 rfl rfl rfl ⟨Nat.le_of_ble_eq_true rfl, Nat.le_of_ble_eq_true rfl, rfl, Nat.le_of_ble_eq_true rfl⟩ (k_X0_sureOf (d) h8) (show Rn N xs (d + 5) me155 49 [some (.ref 0), some (.int a1), some (.int a2)] [(.int v10)] (SH, s9) r from ?_)
        rw [← Option.some.inj hJ] at hC
        have hC : r = (some (.int v10), (SH, s9)) := hC
        subst hC
        exact Rn_ret srt155 26 rfl rfl rfl
      · replace hJ := m_ifn h7 hJ
        refine Rn_sq srt155 27 3 (pc' := 55) (ls' := [some (.ref 0), some (.int a1), some (.int a2)]) (st' := [(.int (c8 11)), (.int (c8 6)), (.int a2)]) (h1 := (SH, s)) rfl ?_
        obtain ⟨v12, h11, hJ⟩ := m_b1 hJ
        refine Rn_call srt155 30 rfl rfl rfl ⟨Nat.le_of_ble_eq_true rfl, Nat.le_of_ble_eq_true rfl, rfl, Nat.le_of_ble_eq_true rfl⟩ (k_X11_isWithin (d + 4) h11) (show Rn N xs (d + 5) me155 58 [some (.ref 0), some (.int a1), some (.int a2)] [(.int v12)] (SH, s) r from ?_)
        refine Rn_sq srt155 31 1 (pc' := (if v12 = 0 then 61 else 64)) (ls' := [some (.ref 0), some (.int a1), some (.int a2)]) (st' := []) (h1 := (SH, s)) rfl (Rn_if (fun h13 => ?_) (fun h13 => ?_))
        · replace hJ := m_ifp h13 hJ
          refine Rn_sq srt155 32 1 (pc' := 63) (ls' := [some (.ref 0), some (.int a1), some (.int a2)]) (st' := [(.int (c8 (-2)))]) (h1 := (SH, s)) rfl ?_
          rw [← Option.some.inj hJ] at hC
          have hC : r = (some (.int (c8 (-2))), (SH, s)) := hC
          subst hC
          exact Rn_ret srt155 33 rfl rfl rfl
        · replace hJ := m_ifn h13 hJ
          refine Rn_sq srt155 34 3 (pc' := 69) (ls' := [some (.ref 0), some (.int a1), some (.int a2)]) (st' := [(.int a1), (.ref 68)]) (h1 := (SH, s)) rfl ?_
          obtain ⟨s15, h14, hJ⟩ := m_b1 hJ
          refine Rn_call srt155 37 rfl rfl rfl ⟨Nat.le_of_ble_eq_true rfl, Nat.le_of_ble_eq_true rfl, rfl, Nat.le_of_ble_eq_true rfl⟩ (k_X3_face (d + 2) h14) (show Rn N xs (d + 5) me155 72 [some (.ref 0), some (.int a1), some (.int a2)] [] (SH, s15) r from ?_)
          refine Rn_sq srt155 38 5 (pc' := 80) (ls' := [some (.ref 0), some (.int a1), some (.int a2)]) (st' := [(.int (a2 - (c8 6))), (.ref 68)]) (h1 := (SH, s15)) rfl ?_
          obtain ⟨v18, s17, h16, hJ⟩ := m_b2 hJ
          refine Rn_call srt155 43 rfl rfl rfl ⟨Nat.le_of_ble_eq_true rfl, Nat.le_of_ble_eq_true rfl, rfl, Nat.le_of_ble_eq_true rfl⟩ (k_X3_tells (d + 2) h16) (show Rn N xs (d + 5) me155 83 [some (.ref 0), some (.int a1), some (.int a2)] [(.int v18)] (SH, s17) r from ?_)
          rw [← Option.some.inj hJ] at hC
          have hC : r = (some (.int v18), (SH, s17)) := hC
          subst hC
          exact Rn_ret srt155 44 rfl rfl rfl
    · replace hJ := m_ifn h6 hJ
      refine Rn_sq srt155 12 5 (pc' := 32) (ls' := [some (.ref 0), some (.int a1), some (.int a2)]) (st' := [(.int a2), (.int a1), (.ref 2)]) (h1 := (SH, s)) rfl ?_
      obtain ⟨v20, h19, hJ⟩ := m_b1 hJ
      refine Rn_call srt155 17 rfl rfl rfl ⟨Nat.le_of_ble_eq_true rfl, Nat.le_of_ble_eq_true rfl, rfl, Nat.le_of_ble_eq_true rfl⟩ (k_X10_at 2 (d + 4) isT_2 h19) (show Rn N xs (d + 5) me155 35 [some (.ref 0), some (.int a1), some (.int a2)] [(.int v20)] (SH, s) r from ?_)
      rw [← Option.some.inj hJ] at hC
      have hC : r = (some (.int v20), (SH, s)) := hC
      subst hC
      exact Rn_ret srt155 18 rfl rfl rfl
theorem k_X11_of {N : Nat} {xs : Nat → Int32} (d : Nat) {s : mG} {a1 : Int32} {a2 : Int32} {τ : (Int32 × mG)} (hJ : F_X11_of a1 a2 s = some τ) : Rn N xs (d + 5) me155 0 [some (.ref 0), some (.int a1), some (.int a2)] [] (SH, s) (some (.int τ.1), (SH, τ.2)) := k_X11_of_r d hJ rfl
/-! IsHeIn.hook(I)I -/
theorem srt156 : m_srt mc156 = true := by decide +kernel
def F_X11_hook (s : mG) (a1 : Int32) : Option (Int32) :=
  b1 (F_X2_isGuest 1 s a1) fun v2 =>
  if v2 = 0 then
    some (c8 (-2))
  else
    b1 (F_X2_keyOn 1 s a1) fun v5 =>
    some v5
set_option maxRecDepth 4000 in
theorem k_X11_hook_r {N : Nat} {xs : Nat → Int32} (d : Nat) {r : Option Value × mH} {s : mG} {a1 : Int32} {τ : (Int32)} (hJ : F_X11_hook s a1 = some τ) (hC : (fun τ => r = (some (.int τ), (SH, s))) τ) : Rn N xs (d + 2) me156 0 [some (.ref 0), some (.int a1)] [] (SH, s) r := by
  unfold F_X11_hook at hJ
  refine Rn_sq srt156 0 3 (pc' := 5) (ls' := [some (.ref 0), some (.int a1)]) (st' := [(.int a1), (.ref 1)]) (h1 := (SH, s)) rfl ?_
  obtain ⟨v2, h1, hJ⟩ := m_b1 hJ
  refine Rn_call srt156 3 rfl rfl rfl ⟨Nat.le_of_ble_eq_true rfl, Nat.le_of_ble_eq_true rfl, rfl, Nat.le_of_ble_eq_true rfl⟩ (k_X2_isGuest 1 (d) isH_1 h1) (show Rn N xs (d + 2) me156 8 [some (.ref 0), some (.int a1)] [(.int v2)] (SH, s) r from ?_)
  refine Rn_sq srt156 4 1 (pc' := (if v2 = 0 then 22 else 11)) (ls' := [some (.ref 0), some (.int a1)]) (st' := []) (h1 := (SH, s)) rfl (Rn_if (fun h3 => ?_) (fun h3 => ?_))
  · replace hJ := m_ifp h3 hJ
    refine Rn_sq srt156 10 1 (pc' := 24) (ls' := [some (.ref 0), some (.int a1)]) (st' := [(.int (c8 (-2)))]) (h1 := (SH, s)) rfl ?_
    rw [← Option.some.inj hJ] at hC
    have hC : r = (some (.int (c8 (-2))), (SH, s)) := hC
    subst hC
    exact Rn_ret srt156 11 rfl rfl rfl
  · replace hJ := m_ifn h3 hJ
    refine Rn_sq srt156 5 3 (pc' := 16) (ls' := [some (.ref 0), some (.int a1)]) (st' := [(.int a1), (.ref 1)]) (h1 := (SH, s)) rfl ?_
    obtain ⟨v5, h4, hJ⟩ := m_b1 hJ
    refine Rn_call srt156 8 rfl rfl rfl ⟨Nat.le_of_ble_eq_true rfl, Nat.le_of_ble_eq_true rfl, rfl, Nat.le_of_ble_eq_true rfl⟩ (k_X2_keyOn 1 (d) isH_1 h4) (show Rn N xs (d + 2) me156 19 [some (.ref 0), some (.int a1)] [(.int v5)] (SH, s) r from ?_)
    refine Rn_sq srt156 9 1 (pc' := 24) (ls' := [some (.ref 0), some (.int a1)]) (st' := [(.int v5)]) (h1 := (SH, s)) rfl ?_
    rw [← Option.some.inj hJ] at hC
    have hC : r = (some (.int v5), (SH, s)) := hC
    subst hC
    exact Rn_ret srt156 11 rfl rfl rfl
theorem k_X11_hook {N : Nat} {xs : Nat → Int32} (d : Nat) {s : mG} {a1 : Int32} {τ : (Int32)} (hJ : F_X11_hook s a1 = some τ) : Rn N xs (d + 2) me156 0 [some (.ref 0), some (.int a1)] [] (SH, s) (some (.int τ), (SH, s)) := k_X11_hook_r d hJ rfl
/-! IsHeIn.sign(II)I -/
theorem srt157 : m_srt mc157 = true := by decide +kernel
def F_X11_sign_73 (s : mG) : Option (Int32) :=
  some (c8 (-2))
set_option maxRecDepth 4000 in
theorem k_X11_sign_73 {N : Nat} {xs : Nat → Int32} (d : Nat) {r : Option Value × mH} {s : mG} {τ : (Int32)} (hJ : F_X11_sign_73 s = some τ) (hC : (fun τ => r = (some (.int τ), (SH, s))) τ) : Rn N xs (d + 2) me157 73 [none, none, none] [] (SH, s) r := by
  unfold F_X11_sign_73 at hJ
  refine Rn_sq srt157 40 1 (pc' := 75) (ls' := [none, none, none]) (st' := [(.int (c8 (-2)))]) (h1 := (SH, s)) rfl ?_
  rw [← Option.some.inj hJ] at hC
  have hC : r = (some (.int (c8 (-2))), (SH, s)) := hC
  subst hC
  exact Rn_ret srt157 41 rfl rfl rfl
def F_X11_sign (s : mG) (a1 : Int32) (a2 : Int32) : Option (Int32) :=
  b1 (F_X2_isSign 1 s a1) fun v2 =>
  if v2 = 0 then
    some (c8 (-2))
  else
    b1 (F_X11_isWithin s a2 (ci 0) (ci 1)) fun v5 =>
    if v5 = 0 then
      if a2 < (ci 2) then
        F_X11_sign_73 s
      else
        b1 (F_X2_isGuest 1 s (a2 - (ci 2))) fun v9 =>
        if v9 = 0 then
          F_X11_sign_73 s
        else
          b1 (F_X10_at 2 s (a2 - (ci 2)) ((ci 5) + a1)) fun v12 =>
          some v12
    else
      b1 (F_X10_at 10 s a1 a2) fun v14 =>
      some v14
set_option maxRecDepth 4000 in
theorem k_X11_sign_r {N : Nat} {xs : Nat → Int32} (d : Nat) {r : Option Value × mH} {s : mG} {a1 : Int32} {a2 : Int32} {τ : (Int32)} (hJ : F_X11_sign s a1 a2 = some τ) (hC : (fun τ => r = (some (.int τ), (SH, s))) τ) : Rn N xs (d + 2) me157 0 [some (.ref 0), some (.int a1), some (.int a2)] [] (SH, s) r := by
  unfold F_X11_sign at hJ
  refine Rn_sq srt157 0 3 (pc' := 5) (ls' := [some (.ref 0), some (.int a1), some (.int a2)]) (st' := [(.int a1), (.ref 1)]) (h1 := (SH, s)) rfl ?_
  obtain ⟨v2, h1, hJ⟩ := m_b1 hJ
  refine Rn_call srt157 3 rfl rfl rfl ⟨Nat.le_of_ble_eq_true rfl, Nat.le_of_ble_eq_true rfl, rfl, Nat.le_of_ble_eq_true rfl⟩ (k_X2_isSign 1 (d) isH_1 h1) (show Rn N xs (d + 2) me157 8 [some (.ref 0), some (.int a1), some (.int a2)] [(.int v2)] (SH, s) r from ?_)
  refine Rn_sq srt157 4 1 (pc' := (if v2 = 0 then 11 else 14)) (ls' := [some (.ref 0), some (.int a1), some (.int a2)]) (st' := []) (h1 := (SH, s)) rfl (Rn_if (fun h3 => ?_) (fun h3 => ?_))
  · replace hJ := m_ifp h3 hJ
    refine Rn_sq srt157 5 1 (pc' := 13) (ls' := [some (.ref 0), some (.int a1), some (.int a2)]) (st' := [(.int (c8 (-2)))]) (h1 := (SH, s)) rfl ?_
    rw [← Option.some.inj hJ] at hC
    have hC : r = (some (.int (c8 (-2))), (SH, s)) := hC
    subst hC
    exact Rn_ret srt157 6 rfl rfl rfl
  · replace hJ := m_ifn h3 hJ
    refine Rn_sq srt157 7 3 (pc' := 17) (ls' := [some (.ref 0), some (.int a1), some (.int a2)]) (st' := [(.int (ci 1)), (.int (ci 0)), (.int a2)]) (h1 := (SH, s)) rfl ?_
    obtain ⟨v5, h4, hJ⟩ := m_b1 hJ
    refine Rn_call srt157 10 rfl rfl rfl ⟨Nat.le_of_ble_eq_true rfl, Nat.le_of_ble_eq_true rfl, rfl, Nat.le_of_ble_eq_true rfl⟩ (k_X11_isWithin (d + 1) h4) (show Rn N xs (d + 2) me157 20 [some (.ref 0), some (.int a1), some (.int a2)] [(.int v5)] (SH, s) r from ?_)
    refine Rn_sq srt157 11 1 (pc' := (if v5 = 0 then 36 else 23)) (ls' := [some (.ref 0), some (.int a1), some (.int a2)]) (st' := []) (h1 := (SH, s)) rfl (Rn_if (fun h6 => ?_) (fun h6 => ?_))
    · replace hJ := m_ifp h6 hJ
      refine Rn_sq srt157 19 3 (pc' := (if a2 < (ci 2) then 73 else 41)) (ls' := [some (.ref 0), some (.int a1), some (.int a2)]) (st' := []) (h1 := (SH, s)) rfl (Rn_if (fun h7 => ?_) (fun h7 => ?_))
      · replace hJ := m_ifp h7 hJ
        exact Rn_weaken (a := [none, none, none]) (b := [some (.ref 0), some (.int a1), some (.int a2)]) trivial rfl (k_X11_sign_73 d hJ hC)
      · replace hJ := m_ifn h7 hJ
        refine Rn_sq srt157 22 5 (pc' := 48) (ls' := [some (.ref 0), some (.int a1), some (.int a2)]) (st' := [(.int (a2 - (ci 2))), (.ref 1)]) (h1 := (SH, s)) rfl ?_
        obtain ⟨v9, h8, hJ⟩ := m_b1 hJ
        refine Rn_call srt157 27 rfl rfl rfl ⟨Nat.le_of_ble_eq_true rfl, Nat.le_of_ble_eq_true rfl, rfl, Nat.le_of_ble_eq_true rfl⟩ (k_X2_isGuest 1 (d) isH_1 h8) (show Rn N xs (d + 2) me157 51 [some (.ref 0), some (.int a1), some (.int a2)] [(.int v9)] (SH, s) r from ?_)
        refine Rn_sq srt157 28 1 (pc' := (if v9 = 0 then 73 else 54)) (ls' := [some (.ref 0), some (.int a1), some (.int a2)]) (st' := []) (h1 := (SH, s)) rfl (Rn_if (fun h10 => ?_) (fun h10 => ?_))
        · replace hJ := m_ifp h10 hJ
          exact Rn_weaken (a := [none, none, none]) (b := [some (.ref 0), some (.int a1), some (.int a2)]) trivial rfl (k_X11_sign_73 d hJ hC)
        · replace hJ := m_ifn h10 hJ
          refine Rn_sq srt157 29 9 (pc' := 67) (ls' := [some (.ref 0), some (.int a1), some (.int a2)]) (st' := [(.int ((ci 5) + a1)), (.int (a2 - (ci 2))), (.ref 2)]) (h1 := (SH, s)) rfl ?_
          obtain ⟨v12, h11, hJ⟩ := m_b1 hJ
          refine Rn_call srt157 38 rfl rfl rfl ⟨Nat.le_of_ble_eq_true rfl, Nat.le_of_ble_eq_true rfl, rfl, Nat.le_of_ble_eq_true rfl⟩ (k_X10_at 2 (d + 1) isT_2 h11) (show Rn N xs (d + 2) me157 70 [some (.ref 0), some (.int a1), some (.int a2)] [(.int v12)] (SH, s) r from ?_)
          refine Rn_sq srt157 39 1 (pc' := 75) (ls' := [some (.ref 0), some (.int a1), some (.int a2)]) (st' := [(.int v12)]) (h1 := (SH, s)) rfl ?_
          rw [← Option.some.inj hJ] at hC
          have hC : r = (some (.int v12), (SH, s)) := hC
          subst hC
          exact Rn_ret srt157 41 rfl rfl rfl
    · replace hJ := m_ifn h6 hJ
      refine Rn_sq srt157 12 5 (pc' := 32) (ls' := [some (.ref 0), some (.int a1), some (.int a2)]) (st' := [(.int a2), (.int a1), (.ref 10)]) (h1 := (SH, s)) rfl ?_
      obtain ⟨v14, h13, hJ⟩ := m_b1 hJ
      refine Rn_call srt157 17 rfl rfl rfl ⟨Nat.le_of_ble_eq_true rfl, Nat.le_of_ble_eq_true rfl, rfl, Nat.le_of_ble_eq_true rfl⟩ (k_X10_at 10 (d + 1) isT_10 h13) (show Rn N xs (d + 2) me157 35 [some (.ref 0), some (.int a1), some (.int a2)] [(.int v14)] (SH, s) r from ?_)
      rw [← Option.some.inj hJ] at hC
      have hC : r = (some (.int v14), (SH, s)) := hC
      subst hC
      exact Rn_ret srt157 18 rfl rfl rfl
theorem k_X11_sign {N : Nat} {xs : Nat → Int32} (d : Nat) {s : mG} {a1 : Int32} {a2 : Int32} {τ : (Int32)} (hJ : F_X11_sign s a1 a2 = some τ) : Rn N xs (d + 2) me157 0 [some (.ref 0), some (.int a1), some (.int a2)] [] (SH, s) (some (.int τ), (SH, s)) := k_X11_sign_r d hJ rfl
/-! IsHeIn.book(II)I -/
theorem srt158 : m_srt mc158 = true := by decide +kernel
def F_X11_book_23 (s : mG) : Option (Int32) :=
  some (c8 (-2))
set_option maxRecDepth 4000 in
theorem k_X11_book_23 {N : Nat} {xs : Nat → Int32} (d : Nat) {r : Option Value × mH} {s : mG} {τ : (Int32)} (hJ : F_X11_book_23 s = some τ) (hC : (fun τ => r = (some (.int τ), (SH, s))) τ) : Rn N xs (d + 1) me158 23 [none, none, none] [] (SH, s) r := by
  unfold F_X11_book_23 at hJ
  refine Rn_sq srt158 11 1 (pc' := 25) (ls' := [none, none, none]) (st' := [(.int (c8 (-2)))]) (h1 := (SH, s)) rfl ?_
  rw [← Option.some.inj hJ] at hC
  have hC : r = (some (.int (c8 (-2))), (SH, s)) := hC
  subst hC
  exact Rn_ret srt158 12 rfl rfl rfl
def F_X11_book (s : mG) (a1 : Int32) (a2 : Int32) : Option (Int32) :=
  b1 (F_X10_hasRow 4 s a1) fun v2 =>
  if v2 = 0 then
    F_X11_book_23 s
  else
    b1 (F_X11_isWithin s a2 (ci 0) (ci 4)) fun v5 =>
    if v5 = 0 then
      F_X11_book_23 s
    else
      b1 (F_X10_at 4 s a1 a2) fun v8 =>
      some v8
set_option maxRecDepth 4000 in
theorem k_X11_book_r {N : Nat} {xs : Nat → Int32} (d : Nat) {r : Option Value × mH} {s : mG} {a1 : Int32} {a2 : Int32} {τ : (Int32)} (hJ : F_X11_book s a1 a2 = some τ) (hC : (fun τ => r = (some (.int τ), (SH, s))) τ) : Rn N xs (d + 1) me158 0 [some (.ref 0), some (.int a1), some (.int a2)] [] (SH, s) r := by
  unfold F_X11_book at hJ
  refine Rn_sq srt158 0 4 (pc' := 8) (ls' := [some (.ref 0), some (.int a1), some (.int a2)]) (st' := [(.int a1), (.ref 4)]) (h1 := (SH, s)) rfl ?_
  obtain ⟨v2, h1, hJ⟩ := m_b1 hJ
  refine Rn_call srt158 4 rfl rfl rfl ⟨Nat.le_of_ble_eq_true rfl, Nat.le_of_ble_eq_true rfl, rfl, Nat.le_of_ble_eq_true rfl⟩ (k_X10_hasRow 4 (d) isT_4 h1) (show Rn N xs (d + 1) me158 11 [some (.ref 0), some (.int a1), some (.int a2)] [(.int v2)] (SH, s) r from ?_)
  refine Rn_sq srt158 5 1 (pc' := (if v2 = 0 then 23 else 14)) (ls' := [some (.ref 0), some (.int a1), some (.int a2)]) (st' := []) (h1 := (SH, s)) rfl (Rn_if (fun h3 => ?_) (fun h3 => ?_))
  · replace hJ := m_ifp h3 hJ
    exact Rn_weaken (a := [none, none, none]) (b := [some (.ref 0), some (.int a1), some (.int a2)]) trivial rfl (k_X11_book_23 d hJ hC)
  · replace hJ := m_ifn h3 hJ
    refine Rn_sq srt158 6 3 (pc' := 17) (ls' := [some (.ref 0), some (.int a1), some (.int a2)]) (st' := [(.int (ci 4)), (.int (ci 0)), (.int a2)]) (h1 := (SH, s)) rfl ?_
    obtain ⟨v5, h4, hJ⟩ := m_b1 hJ
    refine Rn_call srt158 9 rfl rfl rfl ⟨Nat.le_of_ble_eq_true rfl, Nat.le_of_ble_eq_true rfl, rfl, Nat.le_of_ble_eq_true rfl⟩ (k_X11_isWithin (d) h4) (show Rn N xs (d + 1) me158 20 [some (.ref 0), some (.int a1), some (.int a2)] [(.int v5)] (SH, s) r from ?_)
    refine Rn_sq srt158 10 1 (pc' := (if v5 = 0 then 23 else 26)) (ls' := [some (.ref 0), some (.int a1), some (.int a2)]) (st' := []) (h1 := (SH, s)) rfl (Rn_if (fun h6 => ?_) (fun h6 => ?_))
    · replace hJ := m_ifp h6 hJ
      exact Rn_weaken (a := [none, none, none]) (b := [some (.ref 0), some (.int a1), some (.int a2)]) trivial rfl (k_X11_book_23 d hJ hC)
    · replace hJ := m_ifn h6 hJ
      refine Rn_sq srt158 13 5 (pc' := 35) (ls' := [some (.ref 0), some (.int a1), some (.int a2)]) (st' := [(.int a2), (.int a1), (.ref 4)]) (h1 := (SH, s)) rfl ?_
      obtain ⟨v8, h7, hJ⟩ := m_b1 hJ
      refine Rn_call srt158 18 rfl rfl rfl ⟨Nat.le_of_ble_eq_true rfl, Nat.le_of_ble_eq_true rfl, rfl, Nat.le_of_ble_eq_true rfl⟩ (k_X10_at 4 (d) isT_4 h7) (show Rn N xs (d + 1) me158 38 [some (.ref 0), some (.int a1), some (.int a2)] [(.int v8)] (SH, s) r from ?_)
      rw [← Option.some.inj hJ] at hC
      have hC : r = (some (.int v8), (SH, s)) := hC
      subst hC
      exact Rn_ret srt158 19 rfl rfl rfl
theorem k_X11_book {N : Nat} {xs : Nat → Int32} (d : Nat) {s : mG} {a1 : Int32} {a2 : Int32} {τ : (Int32)} (hJ : F_X11_book s a1 a2 = some τ) : Rn N xs (d + 1) me158 0 [some (.ref 0), some (.int a1), some (.int a2)] [] (SH, s) (some (.int τ), (SH, s)) := k_X11_book_r d hJ rfl
/-! IsHeIn.saw(II)I -/
theorem srt159 : m_srt mc159 = true := by decide +kernel
def F_X11_saw_20 (s : mG) : Option (Int32) :=
  some (ci (-1))
set_option maxRecDepth 4000 in
theorem k_X11_saw_20 {N : Nat} {xs : Nat → Int32} (d : Nat) {r : Option Value × mH} {s : mG} {τ : (Int32)} (hJ : F_X11_saw_20 s = some τ) (hC : (fun τ => r = (some (.int τ), (SH, s))) τ) : Rn N xs (d + 2) me159 20 [none, none, none] [] (SH, s) r := by
  unfold F_X11_saw_20 at hJ
  refine Rn_sq srt159 10 1 (pc' := 21) (ls' := [none, none, none]) (st' := [(.int (ci (-1)))]) (h1 := (SH, s)) rfl ?_
  rw [← Option.some.inj hJ] at hC
  have hC : r = (some (.int (ci (-1))), (SH, s)) := hC
  subst hC
  exact Rn_ret srt159 11 rfl rfl rfl
def F_X11_saw_36 (s : mG) (y1 : Int32) (y2 : Int32) : Option (Int32) :=
  b1 (F_X8_linesOf s y1 y2) fun v9 =>
  some v9
set_option maxRecDepth 4000 in
theorem k_X11_saw_36 {N : Nat} {xs : Nat → Int32} (d : Nat) {r : Option Value × mH} {s : mG} {y1 : Int32} {y2 : Int32} {τ : (Int32)} (hJ : F_X11_saw_36 s y1 y2 = some τ) (hC : (fun τ => r = (some (.int τ), (SH, s))) τ) : Rn N xs (d + 2) me159 36 [none, none, none] [(.int y2), (.int y1), (.ref 82)] (SH, s) r := by
  unfold F_X11_saw_36 at hJ
  obtain ⟨v9, h8, hJ⟩ := m_b1 hJ
  refine Rn_call srt159 20 rfl rfl rfl ⟨Nat.le_of_ble_eq_true rfl, Nat.le_of_ble_eq_true rfl, rfl, Nat.le_of_ble_eq_true rfl⟩ (k_X8_linesOf (d) h8) (show Rn N xs (d + 2) me159 39 [none, none, none] [(.int v9)] (SH, s) r from ?_)
  rw [← Option.some.inj hJ] at hC
  have hC : r = (some (.int v9), (SH, s)) := hC
  subst hC
  exact Rn_ret srt159 21 rfl rfl rfl
def F_X11_saw (s : mG) (a1 : Int32) (a2 : Int32) : Option (Int32) :=
  b1 (F_X2_isGuest 1 s a1) fun v2 =>
  if v2 = 0 then
    F_X11_saw_20 s
  else
    b1 (F_X11_isWithin s a2 (ci 0) (ci 1)) fun v5 =>
    if v5 = 0 then
      F_X11_saw_20 s
    else
      if a2 = 0 then
        F_X11_saw_36 s a1 (ci 1)
      else
        F_X11_saw_36 s a1 (ci 0)
set_option maxRecDepth 4000 in
theorem k_X11_saw_r {N : Nat} {xs : Nat → Int32} (d : Nat) {r : Option Value × mH} {s : mG} {a1 : Int32} {a2 : Int32} {τ : (Int32)} (hJ : F_X11_saw s a1 a2 = some τ) (hC : (fun τ => r = (some (.int τ), (SH, s))) τ) : Rn N xs (d + 2) me159 0 [some (.ref 0), some (.int a1), some (.int a2)] [] (SH, s) r := by
  unfold F_X11_saw at hJ
  refine Rn_sq srt159 0 3 (pc' := 5) (ls' := [some (.ref 0), some (.int a1), some (.int a2)]) (st' := [(.int a1), (.ref 1)]) (h1 := (SH, s)) rfl ?_
  obtain ⟨v2, h1, hJ⟩ := m_b1 hJ
  refine Rn_call srt159 3 rfl rfl rfl ⟨Nat.le_of_ble_eq_true rfl, Nat.le_of_ble_eq_true rfl, rfl, Nat.le_of_ble_eq_true rfl⟩ (k_X2_isGuest 1 (d) isH_1 h1) (show Rn N xs (d + 2) me159 8 [some (.ref 0), some (.int a1), some (.int a2)] [(.int v2)] (SH, s) r from ?_)
  refine Rn_sq srt159 4 1 (pc' := (if v2 = 0 then 20 else 11)) (ls' := [some (.ref 0), some (.int a1), some (.int a2)]) (st' := []) (h1 := (SH, s)) rfl (Rn_if (fun h3 => ?_) (fun h3 => ?_))
  · replace hJ := m_ifp h3 hJ
    exact Rn_weaken (a := [none, none, none]) (b := [some (.ref 0), some (.int a1), some (.int a2)]) trivial rfl (k_X11_saw_20 d hJ hC)
  · replace hJ := m_ifn h3 hJ
    refine Rn_sq srt159 5 3 (pc' := 14) (ls' := [some (.ref 0), some (.int a1), some (.int a2)]) (st' := [(.int (ci 1)), (.int (ci 0)), (.int a2)]) (h1 := (SH, s)) rfl ?_
    obtain ⟨v5, h4, hJ⟩ := m_b1 hJ
    refine Rn_call srt159 8 rfl rfl rfl ⟨Nat.le_of_ble_eq_true rfl, Nat.le_of_ble_eq_true rfl, rfl, Nat.le_of_ble_eq_true rfl⟩ (k_X11_isWithin (d + 1) h4) (show Rn N xs (d + 2) me159 17 [some (.ref 0), some (.int a1), some (.int a2)] [(.int v5)] (SH, s) r from ?_)
    refine Rn_sq srt159 9 1 (pc' := (if v5 = 0 then 20 else 22)) (ls' := [some (.ref 0), some (.int a1), some (.int a2)]) (st' := []) (h1 := (SH, s)) rfl (Rn_if (fun h6 => ?_) (fun h6 => ?_))
    · replace hJ := m_ifp h6 hJ
      exact Rn_weaken (a := [none, none, none]) (b := [some (.ref 0), some (.int a1), some (.int a2)]) trivial rfl (k_X11_saw_20 d hJ hC)
    · replace hJ := m_ifn h6 hJ
      refine Rn_sq srt159 12 5 (pc' := (if a2 = 0 then 31 else 35)) (ls' := [some (.ref 0), some (.int a1), some (.int a2)]) (st' := [(.int a1), (.ref 82)]) (h1 := (SH, s)) rfl (Rn_if (fun h7 => ?_) (fun h7 => ?_))
      · replace hJ := m_ifp h7 hJ
        refine Rn_sq srt159 17 2 (pc' := 36) (ls' := [some (.ref 0), some (.int a1), some (.int a2)]) (st' := [(.int (ci 1)), (.int a1), (.ref 82)]) (h1 := (SH, s)) rfl ?_
        exact Rn_weaken (a := [none, none, none]) (b := [some (.ref 0), some (.int a1), some (.int a2)]) trivial rfl (k_X11_saw_36 d hJ hC)
      · replace hJ := m_ifn h7 hJ
        refine Rn_sq srt159 19 1 (pc' := 36) (ls' := [some (.ref 0), some (.int a1), some (.int a2)]) (st' := [(.int (ci 0)), (.int a1), (.ref 82)]) (h1 := (SH, s)) rfl ?_
        exact Rn_weaken (a := [none, none, none]) (b := [some (.ref 0), some (.int a1), some (.int a2)]) trivial rfl (k_X11_saw_36 d hJ hC)
theorem k_X11_saw {N : Nat} {xs : Nat → Int32} (d : Nat) {s : mG} {a1 : Int32} {a2 : Int32} {τ : (Int32)} (hJ : F_X11_saw s a1 a2 = some τ) : Rn N xs (d + 2) me159 0 [some (.ref 0), some (.int a1), some (.int a2)] [] (SH, s) (some (.int τ), (SH, s)) := k_X11_saw_r d hJ rfl
/-! IsHeIn.by(II)I -/
theorem srt160 : m_srt mc160 = true := by decide +kernel
def F_X11_by_18 (s : mG) : Option (Int32) :=
  some (ci (-1))
set_option maxRecDepth 4000 in
theorem k_X11_by_18 {N : Nat} {xs : Nat → Int32} (d : Nat) {r : Option Value × mH} {s : mG} {τ : (Int32)} (hJ : F_X11_by_18 s = some τ) (hC : (fun τ => r = (some (.int τ), (SH, s))) τ) : Rn N xs (d + 2) me160 18 [none, none, none] [] (SH, s) r := by
  unfold F_X11_by_18 at hJ
  refine Rn_sq srt160 10 1 (pc' := 19) (ls' := [none, none, none]) (st' := [(.int (ci (-1)))]) (h1 := (SH, s)) rfl ?_
  rw [← Option.some.inj hJ] at hC
  have hC : r = (some (.int (ci (-1))), (SH, s)) := hC
  subst hC
  exact Rn_ret srt160 11 rfl rfl rfl
def F_X11_by (s : mG) (a1 : Int32) (a2 : Int32) : Option (Int32) :=
  b1 (F_X11_isWithin s a1 (ci 0) (ci 1)) fun v2 =>
  if v2 = 0 then
    F_X11_by_18 s
  else
    b1 (F_X11_isWithin s a2 (ci 0) (ci 1)) fun v5 =>
    if v5 = 0 then
      F_X11_by_18 s
    else
      b1 (F_X8_linesAt s a1 a2) fun v8 =>
      some v8
set_option maxRecDepth 4000 in
theorem k_X11_by_r {N : Nat} {xs : Nat → Int32} (d : Nat) {r : Option Value × mH} {s : mG} {a1 : Int32} {a2 : Int32} {τ : (Int32)} (hJ : F_X11_by s a1 a2 = some τ) (hC : (fun τ => r = (some (.int τ), (SH, s))) τ) : Rn N xs (d + 2) me160 0 [some (.ref 0), some (.int a1), some (.int a2)] [] (SH, s) r := by
  unfold F_X11_by at hJ
  refine Rn_sq srt160 0 3 (pc' := 3) (ls' := [some (.ref 0), some (.int a1), some (.int a2)]) (st' := [(.int (ci 1)), (.int (ci 0)), (.int a1)]) (h1 := (SH, s)) rfl ?_
  obtain ⟨v2, h1, hJ⟩ := m_b1 hJ
  refine Rn_call srt160 3 rfl rfl rfl ⟨Nat.le_of_ble_eq_true rfl, Nat.le_of_ble_eq_true rfl, rfl, Nat.le_of_ble_eq_true rfl⟩ (k_X11_isWithin (d + 1) h1) (show Rn N xs (d + 2) me160 6 [some (.ref 0), some (.int a1), some (.int a2)] [(.int v2)] (SH, s) r from ?_)
  refine Rn_sq srt160 4 1 (pc' := (if v2 = 0 then 18 else 9)) (ls' := [some (.ref 0), some (.int a1), some (.int a2)]) (st' := []) (h1 := (SH, s)) rfl (Rn_if (fun h3 => ?_) (fun h3 => ?_))
  · replace hJ := m_ifp h3 hJ
    exact Rn_weaken (a := [none, none, none]) (b := [some (.ref 0), some (.int a1), some (.int a2)]) trivial rfl (k_X11_by_18 d hJ hC)
  · replace hJ := m_ifn h3 hJ
    refine Rn_sq srt160 5 3 (pc' := 12) (ls' := [some (.ref 0), some (.int a1), some (.int a2)]) (st' := [(.int (ci 1)), (.int (ci 0)), (.int a2)]) (h1 := (SH, s)) rfl ?_
    obtain ⟨v5, h4, hJ⟩ := m_b1 hJ
    refine Rn_call srt160 8 rfl rfl rfl ⟨Nat.le_of_ble_eq_true rfl, Nat.le_of_ble_eq_true rfl, rfl, Nat.le_of_ble_eq_true rfl⟩ (k_X11_isWithin (d + 1) h4) (show Rn N xs (d + 2) me160 15 [some (.ref 0), some (.int a1), some (.int a2)] [(.int v5)] (SH, s) r from ?_)
    refine Rn_sq srt160 9 1 (pc' := (if v5 = 0 then 18 else 20)) (ls' := [some (.ref 0), some (.int a1), some (.int a2)]) (st' := []) (h1 := (SH, s)) rfl (Rn_if (fun h6 => ?_) (fun h6 => ?_))
    · replace hJ := m_ifp h6 hJ
      exact Rn_weaken (a := [none, none, none]) (b := [some (.ref 0), some (.int a1), some (.int a2)]) trivial rfl (k_X11_by_18 d hJ hC)
    · replace hJ := m_ifn h6 hJ
      refine Rn_sq srt160 12 4 (pc' := 26) (ls' := [some (.ref 0), some (.int a1), some (.int a2)]) (st' := [(.int a2), (.int a1), (.ref 82)]) (h1 := (SH, s)) rfl ?_
      obtain ⟨v8, h7, hJ⟩ := m_b1 hJ
      refine Rn_call srt160 16 rfl rfl rfl ⟨Nat.le_of_ble_eq_true rfl, Nat.le_of_ble_eq_true rfl, rfl, Nat.le_of_ble_eq_true rfl⟩ (k_X8_linesAt (d) h7) (show Rn N xs (d + 2) me160 29 [some (.ref 0), some (.int a1), some (.int a2)] [(.int v8)] (SH, s) r from ?_)
      rw [← Option.some.inj hJ] at hC
      have hC : r = (some (.int v8), (SH, s)) := hC
      subst hC
      exact Rn_ret srt160 17 rfl rfl rfl
theorem k_X11_by {N : Nat} {xs : Nat → Int32} (d : Nat) {s : mG} {a1 : Int32} {a2 : Int32} {τ : (Int32)} (hJ : F_X11_by s a1 a2 = some τ) : Rn N xs (d + 2) me160 0 [some (.ref 0), some (.int a1), some (.int a2)] [] (SH, s) (some (.int τ), (SH, s)) := k_X11_by_r d hJ rfl
/-! IsHeIn.tellsOn(I)I -/
theorem srt161 : m_srt mc161 = true := by decide +kernel
def F_X11_tellsOn (s : mG) (a1 : Int32) : Option (Int32) :=
  b1 (F_X11_isWithin s a1 (ci 0) (ci 3)) fun v2 =>
  if v2 = 0 then
    some (ci (-1))
  else
    b1 (F_X8_outSeenBy s a1) fun v5 =>
    some v5
set_option maxRecDepth 4000 in
theorem k_X11_tellsOn_r {N : Nat} {xs : Nat → Int32} (d : Nat) {r : Option Value × mH} {s : mG} {a1 : Int32} {τ : (Int32)} (hJ : F_X11_tellsOn s a1 = some τ) (hC : (fun τ => r = (some (.int τ), (SH, s))) τ) : Rn N xs (d + 3) me161 0 [some (.ref 0), some (.int a1)] [] (SH, s) r := by
  unfold F_X11_tellsOn at hJ
  refine Rn_sq srt161 0 3 (pc' := 3) (ls' := [some (.ref 0), some (.int a1)]) (st' := [(.int (ci 3)), (.int (ci 0)), (.int a1)]) (h1 := (SH, s)) rfl ?_
  obtain ⟨v2, h1, hJ⟩ := m_b1 hJ
  refine Rn_call srt161 3 rfl rfl rfl ⟨Nat.le_of_ble_eq_true rfl, Nat.le_of_ble_eq_true rfl, rfl, Nat.le_of_ble_eq_true rfl⟩ (k_X11_isWithin (d + 2) h1) (show Rn N xs (d + 3) me161 6 [some (.ref 0), some (.int a1)] [(.int v2)] (SH, s) r from ?_)
  refine Rn_sq srt161 4 1 (pc' := (if v2 = 0 then 20 else 9)) (ls' := [some (.ref 0), some (.int a1)]) (st' := []) (h1 := (SH, s)) rfl (Rn_if (fun h3 => ?_) (fun h3 => ?_))
  · replace hJ := m_ifp h3 hJ
    refine Rn_sq srt161 10 1 (pc' := 21) (ls' := [some (.ref 0), some (.int a1)]) (st' := [(.int (ci (-1)))]) (h1 := (SH, s)) rfl ?_
    rw [← Option.some.inj hJ] at hC
    have hC : r = (some (.int (ci (-1))), (SH, s)) := hC
    subst hC
    exact Rn_ret srt161 11 rfl rfl rfl
  · replace hJ := m_ifn h3 hJ
    refine Rn_sq srt161 5 3 (pc' := 14) (ls' := [some (.ref 0), some (.int a1)]) (st' := [(.int a1), (.ref 82)]) (h1 := (SH, s)) rfl ?_
    obtain ⟨v5, h4, hJ⟩ := m_b1 hJ
    refine Rn_call srt161 8 rfl rfl rfl ⟨Nat.le_of_ble_eq_true rfl, Nat.le_of_ble_eq_true rfl, rfl, Nat.le_of_ble_eq_true rfl⟩ (k_X8_outSeenBy (d) h4) (show Rn N xs (d + 3) me161 17 [some (.ref 0), some (.int a1)] [(.int v5)] (SH, s) r from ?_)
    refine Rn_sq srt161 9 1 (pc' := 21) (ls' := [some (.ref 0), some (.int a1)]) (st' := [(.int v5)]) (h1 := (SH, s)) rfl ?_
    rw [← Option.some.inj hJ] at hC
    have hC : r = (some (.int v5), (SH, s)) := hC
    subst hC
    exact Rn_ret srt161 11 rfl rfl rfl
theorem k_X11_tellsOn {N : Nat} {xs : Nat → Int32} (d : Nat) {s : mG} {a1 : Int32} {τ : (Int32)} (hJ : F_X11_tellsOn s a1 = some τ) : Rn N xs (d + 3) me161 0 [some (.ref 0), some (.int a1)] [] (SH, s) (some (.int τ), (SH, s)) := k_X11_tellsOn_r d hJ rfl
/-! IsHeIn.ring(I)I -/
theorem srt162 : m_srt mc162 = true := by decide +kernel
def F_X11_ring (s : mG) (a1 : Int32) : Option (Int32) :=
  b1 (F_X2_isGuest 1 s a1) fun v2 =>
  if v2 = 0 then
    some (ci (-1))
  else
    b1 (F_X8_ringOf s a1) fun v5 =>
    b1 (F_J6_bitCount_0f7a4 s v5) fun v7 =>
    some v7
set_option maxRecDepth 4000 in
theorem k_X11_ring_r {N : Nat} {xs : Nat → Int32} (d : Nat) {r : Option Value × mH} {s : mG} {a1 : Int32} {τ : (Int32)} (hJ : F_X11_ring s a1 = some τ) (hC : (fun τ => r = (some (.int τ), (SH, s))) τ) : Rn N xs (d + 3) me162 0 [some (.ref 0), some (.int a1)] [] (SH, s) r := by
  unfold F_X11_ring at hJ
  refine Rn_sq srt162 0 3 (pc' := 5) (ls' := [some (.ref 0), some (.int a1)]) (st' := [(.int a1), (.ref 1)]) (h1 := (SH, s)) rfl ?_
  obtain ⟨v2, h1, hJ⟩ := m_b1 hJ
  refine Rn_call srt162 3 rfl rfl rfl ⟨Nat.le_of_ble_eq_true rfl, Nat.le_of_ble_eq_true rfl, rfl, Nat.le_of_ble_eq_true rfl⟩ (k_X2_isGuest 1 (d + 1) isH_1 h1) (show Rn N xs (d + 3) me162 8 [some (.ref 0), some (.int a1)] [(.int v2)] (SH, s) r from ?_)
  refine Rn_sq srt162 4 1 (pc' := (if v2 = 0 then 25 else 11)) (ls' := [some (.ref 0), some (.int a1)]) (st' := []) (h1 := (SH, s)) rfl (Rn_if (fun h3 => ?_) (fun h3 => ?_))
  · replace hJ := m_ifp h3 hJ
    refine Rn_sq srt162 11 1 (pc' := 26) (ls' := [some (.ref 0), some (.int a1)]) (st' := [(.int (ci (-1)))]) (h1 := (SH, s)) rfl ?_
    rw [← Option.some.inj hJ] at hC
    have hC : r = (some (.int (ci (-1))), (SH, s)) := hC
    subst hC
    exact Rn_ret srt162 12 rfl rfl rfl
  · replace hJ := m_ifn h3 hJ
    refine Rn_sq srt162 5 3 (pc' := 16) (ls' := [some (.ref 0), some (.int a1)]) (st' := [(.int a1), (.ref 82)]) (h1 := (SH, s)) rfl ?_
    obtain ⟨v5, h4, hJ⟩ := m_b1 hJ
    refine Rn_call srt162 8 rfl rfl rfl ⟨Nat.le_of_ble_eq_true rfl, Nat.le_of_ble_eq_true rfl, rfl, Nat.le_of_ble_eq_true rfl⟩ (k_X8_ringOf (d) h4) (show Rn N xs (d + 3) me162 19 [some (.ref 0), some (.int a1)] [(.int v5)] (SH, s) r from ?_)
    obtain ⟨v7, h6, hJ⟩ := m_b1 hJ
    refine Rn_call srt162 9 rfl rfl rfl ⟨Nat.le_of_ble_eq_true rfl, Nat.le_of_ble_eq_true rfl, rfl, Nat.le_of_ble_eq_true rfl⟩ (k_J6_bitCount_0f7a4 (d + 2) h6) (show Rn N xs (d + 3) me162 22 [some (.ref 0), some (.int a1)] [(.int v7)] (SH, s) r from ?_)
    refine Rn_sq srt162 10 1 (pc' := 26) (ls' := [some (.ref 0), some (.int a1)]) (st' := [(.int v7)]) (h1 := (SH, s)) rfl ?_
    rw [← Option.some.inj hJ] at hC
    have hC : r = (some (.int v7), (SH, s)) := hC
    subst hC
    exact Rn_ret srt162 12 rfl rfl rfl
theorem k_X11_ring {N : Nat} {xs : Nat → Int32} (d : Nat) {s : mG} {a1 : Int32} {τ : (Int32)} (hJ : F_X11_ring s a1 = some τ) : Rn N xs (d + 3) me162 0 [some (.ref 0), some (.int a1)] [] (SH, s) (some (.int τ), (SH, s)) := k_X11_ring_r d hJ rfl
/-! IsHeIn.swapped(I)I -/
theorem srt163 : m_srt mc163 = true := by decide +kernel
def F_X11_swapped (s : mG) (a1 : Int32) : Option (Int32) :=
  if a1 = ci 0 then
    b1 (F_X8_wrongHooks s) fun v3 =>
    some v3
  else
  if a1 = ci 1 then
    b1 (F_X8_wrongHooks s) fun v6 =>
    b1 (F_J6_bitCount_0f7a4 s v6) fun v8 =>
    b1 (F_X8_ringCount s) fun v10 =>
    some (v8 + v10)
  else
  if a1 = ci 2 then
    b1 (F_X8_ringCount s) fun v13 =>
    some v13
  else
  some (ci (-1))
set_option maxRecDepth 4000 in
theorem k_X11_swapped_r {N : Nat} {xs : Nat → Int32} (d : Nat) {r : Option Value × mH} {s : mG} {a1 : Int32} {τ : (Int32)} (hJ : F_X11_swapped s a1 = some τ) (hC : (fun τ => r = (some (.int τ), (SH, s))) τ) : Rn N xs (d + 4) me163 0 [some (.ref 0), some (.int a1)] [] (SH, s) r := by
  unfold F_X11_swapped at hJ
  refine Rn_sq srt163 0 1 (pc' := 1) (ls' := [some (.ref 0), some (.int a1)]) (st' := [(.int a1)]) (h1 := (SH, s)) rfl ?_
  by_cases h1 : a1 = ci 0
  · replace hJ := m_ifp h1 hJ
    refine Rn_ev srt163 1 rfl rfl rfl (op_sw h1 (show _ = some (28, _) from rfl)) ?_
    refine Rn_sq srt163 2 2 (pc' := 32) (ls' := [some (.ref 0), some (.int a1)]) (st' := [(.ref 82)]) (h1 := (SH, s)) rfl ?_
    obtain ⟨v3, h2, hJ⟩ := m_b1 hJ
    refine Rn_call srt163 4 rfl rfl rfl ⟨Nat.le_of_ble_eq_true rfl, Nat.le_of_ble_eq_true rfl, rfl, Nat.le_of_ble_eq_true rfl⟩ (k_X8_wrongHooks (d + 1) h2) (show Rn N xs (d + 4) me163 35 [some (.ref 0), some (.int a1)] [(.int v3)] (SH, s) r from ?_)
    rw [← Option.some.inj hJ] at hC
    have hC : r = (some (.int v3), (SH, s)) := hC
    subst hC
    exact Rn_ret srt163 5 rfl rfl rfl
  replace hJ := m_ifn h1 hJ
  by_cases h4 : a1 = ci 1
  · replace hJ := m_ifp h4 hJ
    refine Rn_ev srt163 1 rfl rfl rfl (op_sw h4 (show _ = some (36, _) from rfl)) ?_
    refine Rn_sq srt163 6 2 (pc' := 40) (ls' := [some (.ref 0), some (.int a1)]) (st' := [(.ref 82)]) (h1 := (SH, s)) rfl ?_
    obtain ⟨v6, h5, hJ⟩ := m_b1 hJ
    refine Rn_call srt163 8 rfl rfl rfl ⟨Nat.le_of_ble_eq_true rfl, Nat.le_of_ble_eq_true rfl, rfl, Nat.le_of_ble_eq_true rfl⟩ (k_X8_wrongHooks (d + 1) h5) (show Rn N xs (d + 4) me163 43 [some (.ref 0), some (.int a1)] [(.int v6)] (SH, s) r from ?_)
    obtain ⟨v8, h7, hJ⟩ := m_b1 hJ
    refine Rn_call srt163 9 rfl rfl rfl ⟨Nat.le_of_ble_eq_true rfl, Nat.le_of_ble_eq_true rfl, rfl, Nat.le_of_ble_eq_true rfl⟩ (k_J6_bitCount_0f7a4 (d + 3) h7) (show Rn N xs (d + 4) me163 46 [some (.ref 0), some (.int a1)] [(.int v8)] (SH, s) r from ?_)
    refine Rn_sq srt163 10 2 (pc' := 50) (ls' := [some (.ref 0), some (.int a1)]) (st' := [(.ref 82), (.int v8)]) (h1 := (SH, s)) rfl ?_
    obtain ⟨v10, h9, hJ⟩ := m_b1 hJ
    refine Rn_call srt163 12 rfl rfl rfl ⟨Nat.le_of_ble_eq_true rfl, Nat.le_of_ble_eq_true rfl, rfl, Nat.le_of_ble_eq_true rfl⟩ (k_X8_ringCount (d) h9) (show Rn N xs (d + 4) me163 53 [some (.ref 0), some (.int a1)] [(.int v10), (.int v8)] (SH, s) r from ?_)
    refine Rn_sq srt163 13 1 (pc' := 54) (ls' := [some (.ref 0), some (.int a1)]) (st' := [(.int (v8 + v10))]) (h1 := (SH, s)) rfl ?_
    rw [← Option.some.inj hJ] at hC
    have hC : r = (some (.int (v8 + v10)), (SH, s)) := hC
    subst hC
    exact Rn_ret srt163 14 rfl rfl rfl
  replace hJ := m_ifn h4 hJ
  by_cases h11 : a1 = ci 2
  · replace hJ := m_ifp h11 hJ
    refine Rn_ev srt163 1 rfl rfl rfl (op_sw h11 (show _ = some (55, _) from rfl)) ?_
    refine Rn_sq srt163 15 2 (pc' := 59) (ls' := [some (.ref 0), some (.int a1)]) (st' := [(.ref 82)]) (h1 := (SH, s)) rfl ?_
    obtain ⟨v13, h12, hJ⟩ := m_b1 hJ
    refine Rn_call srt163 17 rfl rfl rfl ⟨Nat.le_of_ble_eq_true rfl, Nat.le_of_ble_eq_true rfl, rfl, Nat.le_of_ble_eq_true rfl⟩ (k_X8_ringCount (d) h12) (show Rn N xs (d + 4) me163 62 [some (.ref 0), some (.int a1)] [(.int v13)] (SH, s) r from ?_)
    rw [← Option.some.inj hJ] at hC
    have hC : r = (some (.int v13), (SH, s)) := hC
    subst hC
    exact Rn_ret srt163 18 rfl rfl rfl
  replace hJ := m_ifn h11 hJ
  refine Rn_ev srt163 1 rfl rfl rfl (op_swd (tg := 63) (sw_out (by decide) (by decide) (by intro v hv1 hv2; rcases (show v = 0 ∨ v = 1 ∨ v = 2 by omega) with rfl | rfl | rfl <;> assumption)) rfl) ?_
  refine Rn_sq srt163 19 1 (pc' := 64) (ls' := [some (.ref 0), some (.int a1)]) (st' := [(.int (ci (-1)))]) (h1 := (SH, s)) rfl ?_
  rw [← Option.some.inj hJ] at hC
  have hC : r = (some (.int (ci (-1))), (SH, s)) := hC
  subst hC
  exact Rn_ret srt163 20 rfl rfl rfl
theorem k_X11_swapped {N : Nat} {xs : Nat → Int32} (d : Nat) {s : mG} {a1 : Int32} {τ : (Int32)} (hJ : F_X11_swapped s a1 = some τ) : Rn N xs (d + 4) me163 0 [some (.ref 0), some (.int a1)] [] (SH, s) (some (.int τ), (SH, s)) := k_X11_swapped_r d hJ rfl
/-! IsHeIn.thief()I -/
theorem srt164 : m_srt mc164 = true := by decide +kernel
def F_X11_thief (s : mG) : Option (Int32) :=
  b1 (F_X8_longestOutWithKey s) fun v2 =>
  some v2
set_option maxRecDepth 4000 in
theorem k_X11_thief_r {N : Nat} {xs : Nat → Int32} (d : Nat) {r : Option Value × mH} {s : mG} {τ : (Int32)} (hJ : F_X11_thief s = some τ) (hC : (fun τ => r = (some (.int τ), (SH, s))) τ) : Rn N xs (d + 3) me164 0 [some (.ref 0)] [] (SH, s) r := by
  unfold F_X11_thief at hJ
  refine Rn_sq srt164 0 2 (pc' := 4) (ls' := [some (.ref 0)]) (st' := [(.ref 82)]) (h1 := (SH, s)) rfl ?_
  obtain ⟨v2, h1, hJ⟩ := m_b1 hJ
  refine Rn_call srt164 2 rfl rfl rfl ⟨Nat.le_of_ble_eq_true rfl, Nat.le_of_ble_eq_true rfl, rfl, Nat.le_of_ble_eq_true rfl⟩ (k_X8_longestOutWithKey (d) h1) (show Rn N xs (d + 3) me164 7 [some (.ref 0)] [(.int v2)] (SH, s) r from ?_)
  rw [← Option.some.inj hJ] at hC
  have hC : r = (some (.int v2), (SH, s)) := hC
  subst hC
  exact Rn_ret srt164 3 rfl rfl rfl
theorem k_X11_thief {N : Nat} {xs : Nat → Int32} (d : Nat) {s : mG} {τ : (Int32)} (hJ : F_X11_thief s = some τ) : Rn N xs (d + 3) me164 0 [some (.ref 0)] [] (SH, s) (some (.int τ), (SH, s)) := k_X11_thief_r d hJ rfl
/-! IsHeIn.lookAtTold(I)I -/
theorem srt166 : m_srt mc166 = true := by decide +kernel
def F_X11_lookAtTold (s : mG) (a1 : Int32) : Option (Int32) :=
  if a1 = ci 8 then
    some (s.1 6 3)
  else
  if a1 = ci 9 then
    some (s.1 10 3)
  else
  if a1 = ci 10 then
    some (s.1 12 3)
  else
  if a1 = ci 11 then
    some (s.1 14 3)
  else
  if a1 = ci 12 then
    some (s.1 35 1)
  else
  if a1 = ci 13 then
    some (s.1 16 3)
  else
  some (ci (-1))
set_option maxRecDepth 4000 in
theorem k_X11_lookAtTold_r {N : Nat} {xs : Nat → Int32} (d : Nat) {r : Option Value × mH} {s : mG} {a1 : Int32} {τ : (Int32)} (hJ : F_X11_lookAtTold s a1 = some τ) (hC : (fun τ => r = (some (.int τ), (SH, s))) τ) : Rn N xs (d + 0) me166 0 [some (.ref 0), some (.int a1)] [] (SH, s) r := by
  unfold F_X11_lookAtTold at hJ
  refine Rn_sq srt166 0 1 (pc' := 1) (ls' := [some (.ref 0), some (.int a1)]) (st' := [(.int a1)]) (h1 := (SH, s)) rfl ?_
  by_cases h1 : a1 = ci 8
  · replace hJ := m_ifp h1 hJ
    refine Rn_ev srt166 1 rfl rfl rfl (op_sw h1 (show _ = some (40, _) from rfl)) ?_
    refine Rn_sq srt166 2 4 (pc' := 50) (ls' := [some (.ref 0), some (.int a1)]) (st' := [(.int (s.1 6 3))]) (h1 := (SH, s)) rfl ?_
    rw [← Option.some.inj hJ] at hC
    have hC : r = (some (.int (s.1 6 3)), (SH, s)) := hC
    subst hC
    exact Rn_ret srt166 6 rfl rfl rfl
  replace hJ := m_ifn h1 hJ
  by_cases h2 : a1 = ci 9
  · replace hJ := m_ifp h2 hJ
    refine Rn_ev srt166 1 rfl rfl rfl (op_sw h2 (show _ = some (51, _) from rfl)) ?_
    refine Rn_sq srt166 7 4 (pc' := 61) (ls' := [some (.ref 0), some (.int a1)]) (st' := [(.int (s.1 10 3))]) (h1 := (SH, s)) rfl ?_
    rw [← Option.some.inj hJ] at hC
    have hC : r = (some (.int (s.1 10 3)), (SH, s)) := hC
    subst hC
    exact Rn_ret srt166 11 rfl rfl rfl
  replace hJ := m_ifn h2 hJ
  by_cases h3 : a1 = ci 10
  · replace hJ := m_ifp h3 hJ
    refine Rn_ev srt166 1 rfl rfl rfl (op_sw h3 (show _ = some (62, _) from rfl)) ?_
    refine Rn_sq srt166 12 4 (pc' := 72) (ls' := [some (.ref 0), some (.int a1)]) (st' := [(.int (s.1 12 3))]) (h1 := (SH, s)) rfl ?_
    rw [← Option.some.inj hJ] at hC
    have hC : r = (some (.int (s.1 12 3)), (SH, s)) := hC
    subst hC
    exact Rn_ret srt166 16 rfl rfl rfl
  replace hJ := m_ifn h3 hJ
  by_cases h4 : a1 = ci 11
  · replace hJ := m_ifp h4 hJ
    refine Rn_ev srt166 1 rfl rfl rfl (op_sw h4 (show _ = some (73, _) from rfl)) ?_
    refine Rn_sq srt166 17 4 (pc' := 83) (ls' := [some (.ref 0), some (.int a1)]) (st' := [(.int (s.1 14 3))]) (h1 := (SH, s)) rfl ?_
    rw [← Option.some.inj hJ] at hC
    have hC : r = (some (.int (s.1 14 3)), (SH, s)) := hC
    subst hC
    exact Rn_ret srt166 21 rfl rfl rfl
  replace hJ := m_ifn h4 hJ
  by_cases h5 : a1 = ci 12
  · replace hJ := m_ifp h5 hJ
    refine Rn_ev srt166 1 rfl rfl rfl (op_sw h5 (show _ = some (84, _) from rfl)) ?_
    refine Rn_sq srt166 22 3 (pc' := 91) (ls' := [some (.ref 0), some (.int a1)]) (st' := [(.int (s.1 35 1))]) (h1 := (SH, s)) rfl ?_
    rw [← Option.some.inj hJ] at hC
    have hC : r = (some (.int (s.1 35 1)), (SH, s)) := hC
    subst hC
    exact Rn_ret srt166 25 rfl rfl rfl
  replace hJ := m_ifn h5 hJ
  by_cases h6 : a1 = ci 13
  · replace hJ := m_ifp h6 hJ
    refine Rn_ev srt166 1 rfl rfl rfl (op_sw h6 (show _ = some (92, _) from rfl)) ?_
    refine Rn_sq srt166 26 4 (pc' := 102) (ls' := [some (.ref 0), some (.int a1)]) (st' := [(.int (s.1 16 3))]) (h1 := (SH, s)) rfl ?_
    rw [← Option.some.inj hJ] at hC
    have hC : r = (some (.int (s.1 16 3)), (SH, s)) := hC
    subst hC
    exact Rn_ret srt166 30 rfl rfl rfl
  replace hJ := m_ifn h6 hJ
  refine Rn_ev srt166 1 rfl rfl rfl (op_swd (tg := 103) (sw_out (by decide) (by decide) (by intro v hv1 hv2; rcases (show v = 8 ∨ v = 9 ∨ v = 10 ∨ v = 11 ∨ v = 12 ∨ v = 13 by omega) with rfl | rfl | rfl | rfl | rfl | rfl <;> assumption)) rfl) ?_
  refine Rn_sq srt166 31 1 (pc' := 104) (ls' := [some (.ref 0), some (.int a1)]) (st' := [(.int (ci (-1)))]) (h1 := (SH, s)) rfl ?_
  rw [← Option.some.inj hJ] at hC
  have hC : r = (some (.int (ci (-1))), (SH, s)) := hC
  subst hC
  exact Rn_ret srt166 32 rfl rfl rfl
theorem k_X11_lookAtTold {N : Nat} {xs : Nat → Int32} (d : Nat) {s : mG} {a1 : Int32} {τ : (Int32)} (hJ : F_X11_lookAtTold s a1 = some τ) : Rn N xs (d + 0) me166 0 [some (.ref 0), some (.int a1)] [] (SH, s) (some (.int τ), (SH, s)) := k_X11_lookAtTold_r d hJ rfl
/-! IsHeIn.look(I)I -/
theorem srt165 : m_srt mc165 = true := by decide +kernel
def F_X11_look (s : mG) (a1 : Int32) : Option (Int32) :=
  if a1 = ci 0 then
    some (s.1 2 3)
  else
  if a1 = ci 1 then
    some (s.1 1 10)
  else
  if a1 = ci 2 then
    b1 (F_X2_outSet 1 s) fun v5 =>
    some v5
  else
  if a1 = ci 3 then
    b1 (F_X2_hookSet 1 s) fun v8 =>
    some v8
  else
  if a1 = ci 4 then
    some (s.1 1 8)
  else
  if a1 = ci 5 then
    some (s.1 1 9)
  else
  if a1 = ci 6 then
    some (s.1 4 3)
  else
  if a1 = ci 7 then
    some (s.1 1 11)
  else
  b1 (F_X11_lookAtTold s a1) fun v14 =>
  some v14
set_option maxRecDepth 4000 in
theorem k_X11_look_r {N : Nat} {xs : Nat → Int32} (d : Nat) {r : Option Value × mH} {s : mG} {a1 : Int32} {τ : (Int32)} (hJ : F_X11_look s a1 = some τ) (hC : (fun τ => r = (some (.int τ), (SH, s))) τ) : Rn N xs (d + 4) me165 0 [some (.ref 0), some (.int a1)] [] (SH, s) r := by
  unfold F_X11_look at hJ
  refine Rn_sq srt165 0 1 (pc' := 1) (ls' := [some (.ref 0), some (.int a1)]) (st' := [(.int a1)]) (h1 := (SH, s)) rfl ?_
  by_cases h1 : a1 = ci 0
  · replace hJ := m_ifp h1 hJ
    refine Rn_ev srt165 1 rfl rfl rfl (op_sw h1 (show _ = some (48, _) from rfl)) ?_
    refine Rn_sq srt165 2 4 (pc' := 58) (ls' := [some (.ref 0), some (.int a1)]) (st' := [(.int (s.1 2 3))]) (h1 := (SH, s)) rfl ?_
    rw [← Option.some.inj hJ] at hC
    have hC : r = (some (.int (s.1 2 3)), (SH, s)) := hC
    subst hC
    exact Rn_ret srt165 6 rfl rfl rfl
  replace hJ := m_ifn h1 hJ
  by_cases h2 : a1 = ci 1
  · replace hJ := m_ifp h2 hJ
    refine Rn_ev srt165 1 rfl rfl rfl (op_sw h2 (show _ = some (59, _) from rfl)) ?_
    refine Rn_sq srt165 7 3 (pc' := 66) (ls' := [some (.ref 0), some (.int a1)]) (st' := [(.int (s.1 1 10))]) (h1 := (SH, s)) rfl ?_
    rw [← Option.some.inj hJ] at hC
    have hC : r = (some (.int (s.1 1 10)), (SH, s)) := hC
    subst hC
    exact Rn_ret srt165 10 rfl rfl rfl
  replace hJ := m_ifn h2 hJ
  by_cases h3 : a1 = ci 2
  · replace hJ := m_ifp h3 hJ
    refine Rn_ev srt165 1 rfl rfl rfl (op_sw h3 (show _ = some (67, _) from rfl)) ?_
    refine Rn_sq srt165 11 2 (pc' := 71) (ls' := [some (.ref 0), some (.int a1)]) (st' := [(.ref 1)]) (h1 := (SH, s)) rfl ?_
    obtain ⟨v5, h4, hJ⟩ := m_b1 hJ
    refine Rn_call srt165 13 rfl rfl rfl ⟨Nat.le_of_ble_eq_true rfl, Nat.le_of_ble_eq_true rfl, rfl, Nat.le_of_ble_eq_true rfl⟩ (k_X2_outSet 1 (d + 1) isH_1 h4) (show Rn N xs (d + 4) me165 74 [some (.ref 0), some (.int a1)] [(.int v5)] (SH, s) r from ?_)
    rw [← Option.some.inj hJ] at hC
    have hC : r = (some (.int v5), (SH, s)) := hC
    subst hC
    exact Rn_ret srt165 14 rfl rfl rfl
  replace hJ := m_ifn h3 hJ
  by_cases h6 : a1 = ci 3
  · replace hJ := m_ifp h6 hJ
    refine Rn_ev srt165 1 rfl rfl rfl (op_sw h6 (show _ = some (75, _) from rfl)) ?_
    refine Rn_sq srt165 15 2 (pc' := 79) (ls' := [some (.ref 0), some (.int a1)]) (st' := [(.ref 1)]) (h1 := (SH, s)) rfl ?_
    obtain ⟨v8, h7, hJ⟩ := m_b1 hJ
    refine Rn_call srt165 17 rfl rfl rfl ⟨Nat.le_of_ble_eq_true rfl, Nat.le_of_ble_eq_true rfl, rfl, Nat.le_of_ble_eq_true rfl⟩ (k_X2_hookSet 1 (d) isH_1 h7) (show Rn N xs (d + 4) me165 82 [some (.ref 0), some (.int a1)] [(.int v8)] (SH, s) r from ?_)
    rw [← Option.some.inj hJ] at hC
    have hC : r = (some (.int v8), (SH, s)) := hC
    subst hC
    exact Rn_ret srt165 18 rfl rfl rfl
  replace hJ := m_ifn h6 hJ
  by_cases h9 : a1 = ci 4
  · replace hJ := m_ifp h9 hJ
    refine Rn_ev srt165 1 rfl rfl rfl (op_sw h9 (show _ = some (83, _) from rfl)) ?_
    refine Rn_sq srt165 19 3 (pc' := 90) (ls' := [some (.ref 0), some (.int a1)]) (st' := [(.int (s.1 1 8))]) (h1 := (SH, s)) rfl ?_
    rw [← Option.some.inj hJ] at hC
    have hC : r = (some (.int (s.1 1 8)), (SH, s)) := hC
    subst hC
    exact Rn_ret srt165 22 rfl rfl rfl
  replace hJ := m_ifn h9 hJ
  by_cases h10 : a1 = ci 5
  · replace hJ := m_ifp h10 hJ
    refine Rn_ev srt165 1 rfl rfl rfl (op_sw h10 (show _ = some (91, _) from rfl)) ?_
    refine Rn_sq srt165 23 3 (pc' := 98) (ls' := [some (.ref 0), some (.int a1)]) (st' := [(.int (s.1 1 9))]) (h1 := (SH, s)) rfl ?_
    rw [← Option.some.inj hJ] at hC
    have hC : r = (some (.int (s.1 1 9)), (SH, s)) := hC
    subst hC
    exact Rn_ret srt165 26 rfl rfl rfl
  replace hJ := m_ifn h10 hJ
  by_cases h11 : a1 = ci 6
  · replace hJ := m_ifp h11 hJ
    refine Rn_ev srt165 1 rfl rfl rfl (op_sw h11 (show _ = some (99, _) from rfl)) ?_
    refine Rn_sq srt165 27 4 (pc' := 109) (ls' := [some (.ref 0), some (.int a1)]) (st' := [(.int (s.1 4 3))]) (h1 := (SH, s)) rfl ?_
    rw [← Option.some.inj hJ] at hC
    have hC : r = (some (.int (s.1 4 3)), (SH, s)) := hC
    subst hC
    exact Rn_ret srt165 31 rfl rfl rfl
  replace hJ := m_ifn h11 hJ
  by_cases h12 : a1 = ci 7
  · replace hJ := m_ifp h12 hJ
    refine Rn_ev srt165 1 rfl rfl rfl (op_sw h12 (show _ = some (110, _) from rfl)) ?_
    refine Rn_sq srt165 32 3 (pc' := 117) (ls' := [some (.ref 0), some (.int a1)]) (st' := [(.int (s.1 1 11))]) (h1 := (SH, s)) rfl ?_
    rw [← Option.some.inj hJ] at hC
    have hC : r = (some (.int (s.1 1 11)), (SH, s)) := hC
    subst hC
    exact Rn_ret srt165 35 rfl rfl rfl
  replace hJ := m_ifn h12 hJ
  refine Rn_ev srt165 1 rfl rfl rfl (op_swd (tg := 118) (sw_out (by decide) (by decide) (by intro v hv1 hv2; rcases (show v = 0 ∨ v = 1 ∨ v = 2 ∨ v = 3 ∨ v = 4 ∨ v = 5 ∨ v = 6 ∨ v = 7 by omega) with rfl | rfl | rfl | rfl | rfl | rfl | rfl | rfl <;> assumption)) rfl) ?_
  refine Rn_sq srt165 36 2 (pc' := 120) (ls' := [some (.ref 0), some (.int a1)]) (st' := [(.int a1), (.ref 0)]) (h1 := (SH, s)) rfl ?_
  obtain ⟨v14, h13, hJ⟩ := m_b1 hJ
  refine Rn_call srt165 38 rfl rfl rfl ⟨Nat.le_of_ble_eq_true rfl, Nat.le_of_ble_eq_true rfl, rfl, Nat.le_of_ble_eq_true rfl⟩ (k_X11_lookAtTold (d + 3) h13) (show Rn N xs (d + 4) me165 123 [some (.ref 0), some (.int a1)] [(.int v14)] (SH, s) r from ?_)
  rw [← Option.some.inj hJ] at hC
  have hC : r = (some (.int v14), (SH, s)) := hC
  subst hC
  exact Rn_ret srt165 39 rfl rfl rfl
theorem k_X11_look {N : Nat} {xs : Nat → Int32} (d : Nat) {s : mG} {a1 : Int32} {τ : (Int32)} (hJ : F_X11_look s a1 = some τ) : Rn N xs (d + 4) me165 0 [some (.ref 0), some (.int a1)] [] (SH, s) (some (.int τ), (SH, s)) := k_X11_look_r d hJ rfl
/-! IsHeIn.next(I)I -/
theorem srt167 : m_srt mc167 = true := by decide +kernel
def F_X11_next (a1 : Int32) (s : mG) : Option (Int32 × mG) :=
  b1 (F_X2_isGuest 1 s a1) fun v2 =>
  if v2 = 0 then
    some ((ci (-1)), s)
  else
    b2 (F_X0_signAt a1 (ci 0) s) fun v6 s5 =>
    some (v6, s5)
set_option maxRecDepth 4000 in
theorem k_X11_next_r {N : Nat} {xs : Nat → Int32} (d : Nat) {r : Option Value × mH} {s : mG} {a1 : Int32} {τ : (Int32 × mG)} (hJ : F_X11_next a1 s = some τ) (hC : (fun τ => r = (some (.int τ.1), (SH, τ.2))) τ) : Rn N xs (d + 5) me167 0 [some (.ref 0), some (.int a1)] [] (SH, s) r := by
  unfold F_X11_next at hJ
  refine Rn_sq srt167 0 3 (pc' := 5) (ls' := [some (.ref 0), some (.int a1)]) (st' := [(.int a1), (.ref 1)]) (h1 := (SH, s)) rfl ?_
  obtain ⟨v2, h1, hJ⟩ := m_b1 hJ
  refine Rn_call srt167 3 rfl rfl rfl ⟨Nat.le_of_ble_eq_true rfl, Nat.le_of_ble_eq_true rfl, rfl, Nat.le_of_ble_eq_true rfl⟩ (k_X2_isGuest 1 (d + 3) isH_1 h1) (show Rn N xs (d + 5) me167 8 [some (.ref 0), some (.int a1)] [(.int v2)] (SH, s) r from ?_)
  refine Rn_sq srt167 4 1 (pc' := (if v2 = 0 then 23 else 11)) (ls' := [some (.ref 0), some (.int a1)]) (st' := []) (h1 := (SH, s)) rfl (Rn_if (fun h3 => ?_) (fun h3 => ?_))
  · replace hJ := m_ifp h3 hJ
    refine Rn_sq srt167 11 1 (pc' := 24) (ls' := [some (.ref 0), some (.int a1)]) (st' := [(.int (ci (-1)))]) (h1 := (SH, s)) rfl ?_
    rw [← Option.some.inj hJ] at hC
    have hC : r = (some (.int (ci (-1))), (SH, s)) := hC
    subst hC
    exact Rn_ret srt167 12 rfl rfl rfl
  · replace hJ := m_ifn h3 hJ
    refine Rn_sq srt167 5 4 (pc' := 17) (ls' := [some (.ref 0), some (.int a1)]) (st' := [(.int (ci 0)), (.int a1), (.ref 73)]) (h1 := (SH, s)) rfl ?_
    obtain ⟨v6, s5, h4, hJ⟩ := m_b2 hJ
    refine Rn_call srt167 9 rfl rfl rfl ⟨Nat.le_of_ble_eq_true rfl, Nat.le_of_ble_eq_true rfl, rfl, Nat.le_of_ble_eq_true rfl⟩ (k_X0_signAt (d) h4) (show Rn N xs (d + 5) me167 20 [some (.ref 0), some (.int a1)] [(.int v6)] (SH, s5) r from ?_)
    refine Rn_sq srt167 10 1 (pc' := 24) (ls' := [some (.ref 0), some (.int a1)]) (st' := [(.int v6)]) (h1 := (SH, s5)) rfl ?_
    rw [← Option.some.inj hJ] at hC
    have hC : r = (some (.int v6), (SH, s5)) := hC
    subst hC
    exact Rn_ret srt167 12 rfl rfl rfl
theorem k_X11_next {N : Nat} {xs : Nat → Int32} (d : Nat) {s : mG} {a1 : Int32} {τ : (Int32 × mG)} (hJ : F_X11_next a1 s = some τ) : Rn N xs (d + 5) me167 0 [some (.ref 0), some (.int a1)] [] (SH, s) (some (.int τ.1), (SH, τ.2)) := k_X11_next_r d hJ rfl
/-! IsHeIn.looksAt(II)I -/
theorem srt168 : m_srt mc168 = true := by decide +kernel
def F_X11_looksAt_27 (s : mG) : Option (Int32 × mG) :=
  some ((ci (-1)), s)
set_option maxRecDepth 4000 in
theorem k_X11_looksAt_27 {N : Nat} {xs : Nat → Int32} (d : Nat) {r : Option Value × mH} {s : mG} {τ : (Int32 × mG)} (hJ : F_X11_looksAt_27 s = some τ) (hC : (fun τ => r = (some (.int τ.1), (SH, τ.2))) τ) : Rn N xs (d + 5) me168 27 [none, none, none] [] (SH, s) r := by
  unfold F_X11_looksAt_27 at hJ
  refine Rn_sq srt168 13 1 (pc' := 28) (ls' := [none, none, none]) (st' := [(.int (ci (-1)))]) (h1 := (SH, s)) rfl ?_
  rw [← Option.some.inj hJ] at hC
  have hC : r = (some (.int (ci (-1))), (SH, s)) := hC
  subst hC
  exact Rn_ret srt168 14 rfl rfl rfl
def F_X11_looksAt (a1 : Int32) (a2 : Int32) (s : mG) : Option (Int32 × mG) :=
  b1 (F_X2_isGuest 1 s a1) fun v2 =>
  if v2 = 0 then
    F_X11_looksAt_27 s
  else
    if a2 < 0 then
      F_X11_looksAt_27 s
    else
      b2 (F_X0_signAt a1 a2 s) fun v7 s6 =>
      some (v7, s6)
set_option maxRecDepth 4000 in
theorem k_X11_looksAt_r {N : Nat} {xs : Nat → Int32} (d : Nat) {r : Option Value × mH} {s : mG} {a1 : Int32} {a2 : Int32} {τ : (Int32 × mG)} (hJ : F_X11_looksAt a1 a2 s = some τ) (hC : (fun τ => r = (some (.int τ.1), (SH, τ.2))) τ) : Rn N xs (d + 5) me168 0 [some (.ref 0), some (.int a1), some (.int a2)] [] (SH, s) r := by
  unfold F_X11_looksAt at hJ
  refine Rn_sq srt168 0 3 (pc' := 5) (ls' := [some (.ref 0), some (.int a1), some (.int a2)]) (st' := [(.int a1), (.ref 1)]) (h1 := (SH, s)) rfl ?_
  obtain ⟨v2, h1, hJ⟩ := m_b1 hJ
  refine Rn_call srt168 3 rfl rfl rfl ⟨Nat.le_of_ble_eq_true rfl, Nat.le_of_ble_eq_true rfl, rfl, Nat.le_of_ble_eq_true rfl⟩ (k_X2_isGuest 1 (d + 3) isH_1 h1) (show Rn N xs (d + 5) me168 8 [some (.ref 0), some (.int a1), some (.int a2)] [(.int v2)] (SH, s) r from ?_)
  refine Rn_sq srt168 4 1 (pc' := (if v2 = 0 then 27 else 11)) (ls' := [some (.ref 0), some (.int a1), some (.int a2)]) (st' := []) (h1 := (SH, s)) rfl (Rn_if (fun h3 => ?_) (fun h3 => ?_))
  · replace hJ := m_ifp h3 hJ
    exact Rn_weaken (a := [none, none, none]) (b := [some (.ref 0), some (.int a1), some (.int a2)]) trivial rfl (k_X11_looksAt_27 d hJ hC)
  · replace hJ := m_ifn h3 hJ
    refine Rn_sq srt168 5 2 (pc' := (if a2 < 0 then 27 else 15)) (ls' := [some (.ref 0), some (.int a1), some (.int a2)]) (st' := []) (h1 := (SH, s)) rfl (Rn_if (fun h4 => ?_) (fun h4 => ?_))
    · replace hJ := m_ifp h4 hJ
      exact Rn_weaken (a := [none, none, none]) (b := [some (.ref 0), some (.int a1), some (.int a2)]) trivial rfl (k_X11_looksAt_27 d hJ hC)
    · replace hJ := m_ifn h4 hJ
      refine Rn_sq srt168 7 4 (pc' := 21) (ls' := [some (.ref 0), some (.int a1), some (.int a2)]) (st' := [(.int a2), (.int a1), (.ref 73)]) (h1 := (SH, s)) rfl ?_
      obtain ⟨v7, s6, h5, hJ⟩ := m_b2 hJ
      refine Rn_call srt168 11 rfl rfl rfl ⟨Nat.le_of_ble_eq_true rfl, Nat.le_of_ble_eq_true rfl, rfl, Nat.le_of_ble_eq_true rfl⟩ (k_X0_signAt (d) h5) (show Rn N xs (d + 5) me168 24 [some (.ref 0), some (.int a1), some (.int a2)] [(.int v7)] (SH, s6) r from ?_)
      refine Rn_sq srt168 12 1 (pc' := 28) (ls' := [some (.ref 0), some (.int a1), some (.int a2)]) (st' := [(.int v7)]) (h1 := (SH, s6)) rfl ?_
      rw [← Option.some.inj hJ] at hC
      have hC : r = (some (.int v7), (SH, s6)) := hC
      subst hC
      exact Rn_ret srt168 14 rfl rfl rfl
theorem k_X11_looksAt {N : Nat} {xs : Nat → Int32} (d : Nat) {s : mG} {a1 : Int32} {a2 : Int32} {τ : (Int32 × mG)} (hJ : F_X11_looksAt a1 a2 s = some τ) : Rn N xs (d + 5) me168 0 [some (.ref 0), some (.int a1), some (.int a2)] [] (SH, s) (some (.int τ.1), (SH, τ.2)) := k_X11_looksAt_r d hJ rfl
/-! IsHeIn.say(III)I -/
theorem srt169 : m_srt mc169 = true := by decide +kernel
def F_X11_say_33 (s : mG) : Option (Int32 × mG) :=
  some ((ci (-1)), s)
set_option maxRecDepth 4000 in
theorem k_X11_say_33 {N : Nat} {xs : Nat → Int32} (d : Nat) {r : Option Value × mH} {s : mG} {τ : (Int32 × mG)} (hJ : F_X11_say_33 s = some τ) (hC : (fun τ => r = (some (.int τ.1), (SH, τ.2))) τ) : Rn N xs (d + 6) me169 33 [none, none, none, none] [] (SH, s) r := by
  unfold F_X11_say_33 at hJ
  refine Rn_sq srt169 15 1 (pc' := 34) (ls' := [none, none, none, none]) (st' := [(.int (ci (-1)))]) (h1 := (SH, s)) rfl ?_
  rw [← Option.some.inj hJ] at hC
  have hC : r = (some (.int (ci (-1))), (SH, s)) := hC
  subst hC
  exact Rn_ret srt169 16 rfl rfl rfl
def F_X11_say (a1 : Int32) (a2 : Int32) (a3 : Int32) (s : mG) : Option (Int32 × mG) :=
  b1 (F_X2_isGuest 1 s a1) fun v2 =>
  if v2 = 0 then
    F_X11_say_33 s
  else
    b1 (F_X11_isWithin s a2 (ci 0) (c16 9999)) fun v5 =>
    if v5 = 0 then
      F_X11_say_33 s
    else
      b1 (F_X11_isWithin s a3 (ci 0) (c16 9999)) fun v8 =>
      if v8 = 0 then
        F_X11_say_33 s
      else
        b2 (F_X0_saysIn a1 a2 a3 s) fun v12 s11 =>
        if v12 = 0 then
          some ((ci 0), s11)
        else
          some ((ci 1), s11)
set_option maxRecDepth 4000 in
theorem k_X11_say_r {N : Nat} {xs : Nat → Int32} (d : Nat) {r : Option Value × mH} {s : mG} {a1 : Int32} {a2 : Int32} {a3 : Int32} {τ : (Int32 × mG)} (hJ : F_X11_say a1 a2 a3 s = some τ) (hC : (fun τ => r = (some (.int τ.1), (SH, τ.2))) τ) : Rn N xs (d + 6) me169 0 [some (.ref 0), some (.int a1), some (.int a2), some (.int a3)] [] (SH, s) r := by
  unfold F_X11_say at hJ
  refine Rn_sq srt169 0 3 (pc' := 5) (ls' := [some (.ref 0), some (.int a1), some (.int a2), some (.int a3)]) (st' := [(.int a1), (.ref 1)]) (h1 := (SH, s)) rfl ?_
  obtain ⟨v2, h1, hJ⟩ := m_b1 hJ
  refine Rn_call srt169 3 rfl rfl rfl ⟨Nat.le_of_ble_eq_true rfl, Nat.le_of_ble_eq_true rfl, rfl, Nat.le_of_ble_eq_true rfl⟩ (k_X2_isGuest 1 (d + 4) isH_1 h1) (show Rn N xs (d + 6) me169 8 [some (.ref 0), some (.int a1), some (.int a2), some (.int a3)] [(.int v2)] (SH, s) r from ?_)
  refine Rn_sq srt169 4 1 (pc' := (if v2 = 0 then 33 else 11)) (ls' := [some (.ref 0), some (.int a1), some (.int a2), some (.int a3)]) (st' := []) (h1 := (SH, s)) rfl (Rn_if (fun h3 => ?_) (fun h3 => ?_))
  · replace hJ := m_ifp h3 hJ
    exact Rn_weaken (a := [none, none, none, none]) (b := [some (.ref 0), some (.int a1), some (.int a2), some (.int a3)]) trivial rfl (k_X11_say_33 d hJ hC)
  · replace hJ := m_ifn h3 hJ
    refine Rn_sq srt169 5 3 (pc' := 16) (ls' := [some (.ref 0), some (.int a1), some (.int a2), some (.int a3)]) (st' := [(.int (c16 9999)), (.int (ci 0)), (.int a2)]) (h1 := (SH, s)) rfl ?_
    obtain ⟨v5, h4, hJ⟩ := m_b1 hJ
    refine Rn_call srt169 8 rfl rfl rfl ⟨Nat.le_of_ble_eq_true rfl, Nat.le_of_ble_eq_true rfl, rfl, Nat.le_of_ble_eq_true rfl⟩ (k_X11_isWithin (d + 5) h4) (show Rn N xs (d + 6) me169 19 [some (.ref 0), some (.int a1), some (.int a2), some (.int a3)] [(.int v5)] (SH, s) r from ?_)
    refine Rn_sq srt169 9 1 (pc' := (if v5 = 0 then 33 else 22)) (ls' := [some (.ref 0), some (.int a1), some (.int a2), some (.int a3)]) (st' := []) (h1 := (SH, s)) rfl (Rn_if (fun h6 => ?_) (fun h6 => ?_))
    · replace hJ := m_ifp h6 hJ
      exact Rn_weaken (a := [none, none, none, none]) (b := [some (.ref 0), some (.int a1), some (.int a2), some (.int a3)]) trivial rfl (k_X11_say_33 d hJ hC)
    · replace hJ := m_ifn h6 hJ
      refine Rn_sq srt169 10 3 (pc' := 27) (ls' := [some (.ref 0), some (.int a1), some (.int a2), some (.int a3)]) (st' := [(.int (c16 9999)), (.int (ci 0)), (.int a3)]) (h1 := (SH, s)) rfl ?_
      obtain ⟨v8, h7, hJ⟩ := m_b1 hJ
      refine Rn_call srt169 13 rfl rfl rfl ⟨Nat.le_of_ble_eq_true rfl, Nat.le_of_ble_eq_true rfl, rfl, Nat.le_of_ble_eq_true rfl⟩ (k_X11_isWithin (d + 5) h7) (show Rn N xs (d + 6) me169 30 [some (.ref 0), some (.int a1), some (.int a2), some (.int a3)] [(.int v8)] (SH, s) r from ?_)
      refine Rn_sq srt169 14 1 (pc' := (if v8 = 0 then 33 else 35)) (ls' := [some (.ref 0), some (.int a1), some (.int a2), some (.int a3)]) (st' := []) (h1 := (SH, s)) rfl (Rn_if (fun h9 => ?_) (fun h9 => ?_))
      · replace hJ := m_ifp h9 hJ
        exact Rn_weaken (a := [none, none, none, none]) (b := [some (.ref 0), some (.int a1), some (.int a2), some (.int a3)]) trivial rfl (k_X11_say_33 d hJ hC)
      · replace hJ := m_ifn h9 hJ
        refine Rn_sq srt169 17 5 (pc' := 42) (ls' := [some (.ref 0), some (.int a1), some (.int a2), some (.int a3)]) (st' := [(.int a3), (.int a2), (.int a1), (.ref 73)]) (h1 := (SH, s)) rfl ?_
        obtain ⟨v12, s11, h10, hJ⟩ := m_b2 hJ
        refine Rn_call srt169 22 rfl rfl rfl ⟨Nat.le_of_ble_eq_true rfl, Nat.le_of_ble_eq_true rfl, rfl, Nat.le_of_ble_eq_true rfl⟩ (k_X0_saysIn (d) h10) (show Rn N xs (d + 6) me169 45 [some (.ref 0), some (.int a1), some (.int a2), some (.int a3)] [(.int v12)] (SH, s11) r from ?_)
        refine Rn_sq srt169 23 1 (pc' := (if v12 = 0 then 52 else 48)) (ls' := [some (.ref 0), some (.int a1), some (.int a2), some (.int a3)]) (st' := []) (h1 := (SH, s11)) rfl (Rn_if (fun h13 => ?_) (fun h13 => ?_))
        · replace hJ := m_ifp h13 hJ
          refine Rn_sq srt169 26 1 (pc' := 53) (ls' := [some (.ref 0), some (.int a1), some (.int a2), some (.int a3)]) (st' := [(.int (ci 0))]) (h1 := (SH, s11)) rfl ?_
          rw [← Option.some.inj hJ] at hC
          have hC : r = (some (.int (ci 0)), (SH, s11)) := hC
          subst hC
          exact Rn_ret srt169 27 rfl rfl rfl
        · replace hJ := m_ifn h13 hJ
          refine Rn_sq srt169 24 2 (pc' := 53) (ls' := [some (.ref 0), some (.int a1), some (.int a2), some (.int a3)]) (st' := [(.int (ci 1))]) (h1 := (SH, s11)) rfl ?_
          rw [← Option.some.inj hJ] at hC
          have hC : r = (some (.int (ci 1)), (SH, s11)) := hC
          subst hC
          exact Rn_ret srt169 27 rfl rfl rfl
theorem k_X11_say {N : Nat} {xs : Nat → Int32} (d : Nat) {s : mG} {a1 : Int32} {a2 : Int32} {a3 : Int32} {τ : (Int32 × mG)} (hJ : F_X11_say a1 a2 a3 s = some τ) : Rn N xs (d + 6) me169 0 [some (.ref 0), some (.int a1), some (.int a2), some (.int a3)] [] (SH, s) (some (.int τ.1), (SH, τ.2)) := k_X11_say_r d hJ rfl
/-! IsHeIn.said(I)I -/
theorem srt170 : m_srt mc170 = true := by decide +kernel
def F_X11_said_23 (y1 : Int32) (s : mG) : Option (Int32 × mG) :=
  b2 (F_X0_saidToAll y1 s) fun v7 s6 =>
  some (v7, s6)
set_option maxRecDepth 4000 in
theorem k_X11_said_23 {N : Nat} {xs : Nat → Int32} (d : Nat) {r : Option Value × mH} {s : mG} {y1 : Int32} {τ : (Int32 × mG)} (hJ : F_X11_said_23 y1 s = some τ) (hC : (fun τ => r = (some (.int τ.1), (SH, τ.2))) τ) : Rn N xs (d + 6) me170 23 [none, none] [(.int y1), (.ref 73)] (SH, s) r := by
  unfold F_X11_said_23 at hJ
  obtain ⟨v7, s6, h5, hJ⟩ := m_b2 hJ
  refine Rn_call srt170 13 rfl rfl rfl ⟨Nat.le_of_ble_eq_true rfl, Nat.le_of_ble_eq_true rfl, rfl, Nat.le_of_ble_eq_true rfl⟩ (k_X0_saidToAll (d) h5) (show Rn N xs (d + 6) me170 26 [none, none] [(.int v7)] (SH, s6) r from ?_)
  refine Rn_sq srt170 14 1 (pc' := 30) (ls' := [none, none]) (st' := [(.int v7)]) (h1 := (SH, s6)) rfl ?_
  rw [← Option.some.inj hJ] at hC
  have hC : r = (some (.int v7), (SH, s6)) := hC
  subst hC
  exact Rn_ret srt170 16 rfl rfl rfl
def F_X11_said (a1 : Int32) (s : mG) : Option (Int32 × mG) :=
  b1 (F_X11_isWithin s a1 (ci 0) (ci 1)) fun v2 =>
  if v2 = 0 then
    some ((ci (-1)), s)
  else
    if a1 = (ci 1) then
      F_X11_said_23 (ci 1) s
    else
      F_X11_said_23 (ci 0) s
set_option maxRecDepth 4000 in
theorem k_X11_said_r {N : Nat} {xs : Nat → Int32} (d : Nat) {r : Option Value × mH} {s : mG} {a1 : Int32} {τ : (Int32 × mG)} (hJ : F_X11_said a1 s = some τ) (hC : (fun τ => r = (some (.int τ.1), (SH, τ.2))) τ) : Rn N xs (d + 6) me170 0 [some (.ref 0), some (.int a1)] [] (SH, s) r := by
  unfold F_X11_said at hJ
  refine Rn_sq srt170 0 3 (pc' := 3) (ls' := [some (.ref 0), some (.int a1)]) (st' := [(.int (ci 1)), (.int (ci 0)), (.int a1)]) (h1 := (SH, s)) rfl ?_
  obtain ⟨v2, h1, hJ⟩ := m_b1 hJ
  refine Rn_call srt170 3 rfl rfl rfl ⟨Nat.le_of_ble_eq_true rfl, Nat.le_of_ble_eq_true rfl, rfl, Nat.le_of_ble_eq_true rfl⟩ (k_X11_isWithin (d + 5) h1) (show Rn N xs (d + 6) me170 6 [some (.ref 0), some (.int a1)] [(.int v2)] (SH, s) r from ?_)
  refine Rn_sq srt170 4 1 (pc' := (if v2 = 0 then 29 else 9)) (ls' := [some (.ref 0), some (.int a1)]) (st' := []) (h1 := (SH, s)) rfl (Rn_if (fun h3 => ?_) (fun h3 => ?_))
  · replace hJ := m_ifp h3 hJ
    refine Rn_sq srt170 15 1 (pc' := 30) (ls' := [some (.ref 0), some (.int a1)]) (st' := [(.int (ci (-1)))]) (h1 := (SH, s)) rfl ?_
    rw [← Option.some.inj hJ] at hC
    have hC : r = (some (.int (ci (-1))), (SH, s)) := hC
    subst hC
    exact Rn_ret srt170 16 rfl rfl rfl
  · replace hJ := m_ifn h3 hJ
    refine Rn_sq srt170 5 5 (pc' := (if a1 = (ci 1) then 18 else 22)) (ls' := [some (.ref 0), some (.int a1)]) (st' := [(.ref 73)]) (h1 := (SH, s)) rfl (Rn_if (fun h4 => ?_) (fun h4 => ?_))
    · replace hJ := m_ifp h4 hJ
      refine Rn_sq srt170 10 2 (pc' := 23) (ls' := [some (.ref 0), some (.int a1)]) (st' := [(.int (ci 1)), (.ref 73)]) (h1 := (SH, s)) rfl ?_
      exact Rn_weaken (a := [none, none]) (b := [some (.ref 0), some (.int a1)]) trivial rfl (k_X11_said_23 d hJ hC)
    · replace hJ := m_ifn h4 hJ
      refine Rn_sq srt170 12 1 (pc' := 23) (ls' := [some (.ref 0), some (.int a1)]) (st' := [(.int (ci 0)), (.ref 73)]) (h1 := (SH, s)) rfl ?_
      exact Rn_weaken (a := [none, none]) (b := [some (.ref 0), some (.int a1)]) trivial rfl (k_X11_said_23 d hJ hC)
theorem k_X11_said {N : Nat} {xs : Nat → Int32} (d : Nat) {s : mG} {a1 : Int32} {τ : (Int32 × mG)} (hJ : F_X11_said a1 s = some τ) : Rn N xs (d + 6) me170 0 [some (.ref 0), some (.int a1)] [] (SH, s) (some (.int τ.1), (SH, τ.2)) := k_X11_said_r d hJ rfl
/-! IsHeIn.many(I)I -/
theorem srt171 : m_srt mc171 = true := by decide +kernel
def F_X11_many (a1 : Int32) (s : mG) : Option (Int32 × mG) :=
  if a1 = ci 0 then
    b2 (F_X0_sumOfSure s) fun v4 s3 =>
    some (v4, s3)
  else
  if a1 = ci 1 then
    b2 (F_X0_likeliest (ci 0) s) fun v8 s7 =>
    some (v8, s7)
  else
  if a1 = ci 2 then
    b2 (F_X0_likeliest (ci 1) s) fun v12 s11 =>
    some (v12, s11)
  else
  some ((ci (-1)), s)
set_option maxRecDepth 4000 in
theorem k_X11_many_r {N : Nat} {xs : Nat → Int32} (d : Nat) {r : Option Value × mH} {s : mG} {a1 : Int32} {τ : (Int32 × mG)} (hJ : F_X11_many a1 s = some τ) (hC : (fun τ => r = (some (.int τ.1), (SH, τ.2))) τ) : Rn N xs (d + 7) me171 0 [some (.ref 0), some (.int a1)] [] (SH, s) r := by
  unfold F_X11_many at hJ
  refine Rn_sq srt171 0 1 (pc' := 1) (ls' := [some (.ref 0), some (.int a1)]) (st' := [(.int a1)]) (h1 := (SH, s)) rfl ?_
  by_cases h1 : a1 = ci 0
  · replace hJ := m_ifp h1 hJ
    refine Rn_ev srt171 1 rfl rfl rfl (op_sw h1 (show _ = some (28, _) from rfl)) ?_
    refine Rn_sq srt171 2 2 (pc' := 32) (ls' := [some (.ref 0), some (.int a1)]) (st' := [(.ref 73)]) (h1 := (SH, s)) rfl ?_
    obtain ⟨v4, s3, h2, hJ⟩ := m_b2 hJ
    refine Rn_call srt171 4 rfl rfl rfl ⟨Nat.le_of_ble_eq_true rfl, Nat.le_of_ble_eq_true rfl, rfl, Nat.le_of_ble_eq_true rfl⟩ (k_X0_sumOfSure (d + 1) h2) (show Rn N xs (d + 7) me171 35 [some (.ref 0), some (.int a1)] [(.int v4)] (SH, s3) r from ?_)
    rw [← Option.some.inj hJ] at hC
    have hC : r = (some (.int v4), (SH, s3)) := hC
    subst hC
    exact Rn_ret srt171 5 rfl rfl rfl
  replace hJ := m_ifn h1 hJ
  by_cases h5 : a1 = ci 1
  · replace hJ := m_ifp h5 hJ
    refine Rn_ev srt171 1 rfl rfl rfl (op_sw h5 (show _ = some (36, _) from rfl)) ?_
    refine Rn_sq srt171 6 3 (pc' := 41) (ls' := [some (.ref 0), some (.int a1)]) (st' := [(.int (ci 0)), (.ref 73)]) (h1 := (SH, s)) rfl ?_
    obtain ⟨v8, s7, h6, hJ⟩ := m_b2 hJ
    refine Rn_call srt171 9 rfl rfl rfl ⟨Nat.le_of_ble_eq_true rfl, Nat.le_of_ble_eq_true rfl, rfl, Nat.le_of_ble_eq_true rfl⟩ (k_X0_likeliest (d) h6) (show Rn N xs (d + 7) me171 44 [some (.ref 0), some (.int a1)] [(.int v8)] (SH, s7) r from ?_)
    rw [← Option.some.inj hJ] at hC
    have hC : r = (some (.int v8), (SH, s7)) := hC
    subst hC
    exact Rn_ret srt171 10 rfl rfl rfl
  replace hJ := m_ifn h5 hJ
  by_cases h9 : a1 = ci 2
  · replace hJ := m_ifp h9 hJ
    refine Rn_ev srt171 1 rfl rfl rfl (op_sw h9 (show _ = some (45, _) from rfl)) ?_
    refine Rn_sq srt171 11 3 (pc' := 50) (ls' := [some (.ref 0), some (.int a1)]) (st' := [(.int (ci 1)), (.ref 73)]) (h1 := (SH, s)) rfl ?_
    obtain ⟨v12, s11, h10, hJ⟩ := m_b2 hJ
    refine Rn_call srt171 14 rfl rfl rfl ⟨Nat.le_of_ble_eq_true rfl, Nat.le_of_ble_eq_true rfl, rfl, Nat.le_of_ble_eq_true rfl⟩ (k_X0_likeliest (d) h10) (show Rn N xs (d + 7) me171 53 [some (.ref 0), some (.int a1)] [(.int v12)] (SH, s11) r from ?_)
    rw [← Option.some.inj hJ] at hC
    have hC : r = (some (.int v12), (SH, s11)) := hC
    subst hC
    exact Rn_ret srt171 15 rfl rfl rfl
  replace hJ := m_ifn h9 hJ
  refine Rn_ev srt171 1 rfl rfl rfl (op_swd (tg := 54) (sw_out (by decide) (by decide) (by intro v hv1 hv2; rcases (show v = 0 ∨ v = 1 ∨ v = 2 by omega) with rfl | rfl | rfl <;> assumption)) rfl) ?_
  refine Rn_sq srt171 16 1 (pc' := 55) (ls' := [some (.ref 0), some (.int a1)]) (st' := [(.int (ci (-1)))]) (h1 := (SH, s)) rfl ?_
  rw [← Option.some.inj hJ] at hC
  have hC : r = (some (.int (ci (-1))), (SH, s)) := hC
  subst hC
  exact Rn_ret srt171 17 rfl rfl rfl
theorem k_X11_many {N : Nat} {xs : Nat → Int32} (d : Nat) {s : mG} {a1 : Int32} {τ : (Int32 × mG)} (hJ : F_X11_many a1 s = some τ) : Rn N xs (d + 7) me171 0 [some (.ref 0), some (.int a1)] [] (SH, s) (some (.int τ.1), (SH, τ.2)) := k_X11_many_r d hJ rfl
/-! IsHeIn.span(II)I -/
theorem srt172 : m_srt mc172 = true := by decide +kernel
def F_X11_span_20 (s : mG) : Option (Int32 × mG) :=
  some ((ci (-1)), s)
set_option maxRecDepth 4000 in
theorem k_X11_span_20 {N : Nat} {xs : Nat → Int32} (d : Nat) {r : Option Value × mH} {s : mG} {τ : (Int32 × mG)} (hJ : F_X11_span_20 s = some τ) (hC : (fun τ => r = (some (.int τ.1), (SH, τ.2))) τ) : Rn N xs (d + 7) me172 20 [none, none, none] [] (SH, s) r := by
  unfold F_X11_span_20 at hJ
  refine Rn_sq srt172 10 1 (pc' := 21) (ls' := [none, none, none]) (st' := [(.int (ci (-1)))]) (h1 := (SH, s)) rfl ?_
  rw [← Option.some.inj hJ] at hC
  have hC : r = (some (.int (ci (-1))), (SH, s)) := hC
  subst hC
  exact Rn_ret srt172 11 rfl rfl rfl
def F_X11_span_37 (y1 : Int32) (y2 : Int32) (s : mG) : Option (Int32 × mG) :=
  b2 (F_X0_spanEdge y1 y2 s) fun v10 s9 =>
  some (v10, s9)
set_option maxRecDepth 4000 in
theorem k_X11_span_37 {N : Nat} {xs : Nat → Int32} (d : Nat) {r : Option Value × mH} {s : mG} {y1 : Int32} {y2 : Int32} {τ : (Int32 × mG)} (hJ : F_X11_span_37 y1 y2 s = some τ) (hC : (fun τ => r = (some (.int τ.1), (SH, τ.2))) τ) : Rn N xs (d + 7) me172 37 [none, none, none] [(.int y2), (.int y1), (.ref 73)] (SH, s) r := by
  unfold F_X11_span_37 at hJ
  obtain ⟨v10, s9, h8, hJ⟩ := m_b2 hJ
  refine Rn_call srt172 21 rfl rfl rfl ⟨Nat.le_of_ble_eq_true rfl, Nat.le_of_ble_eq_true rfl, rfl, Nat.le_of_ble_eq_true rfl⟩ (k_X0_spanEdge (d) h8) (show Rn N xs (d + 7) me172 40 [none, none, none] [(.int v10)] (SH, s9) r from ?_)
  rw [← Option.some.inj hJ] at hC
  have hC : r = (some (.int v10), (SH, s9)) := hC
  subst hC
  exact Rn_ret srt172 22 rfl rfl rfl
def F_X11_span (a1 : Int32) (a2 : Int32) (s : mG) : Option (Int32 × mG) :=
  b1 (F_X11_isWithin s a1 (ci 0) (c16 1000)) fun v2 =>
  if v2 = 0 then
    F_X11_span_20 s
  else
    b1 (F_X11_isWithin s a2 (ci 0) (ci 1)) fun v5 =>
    if v5 = 0 then
      F_X11_span_20 s
    else
      if a2 = (ci 1) then
        F_X11_span_37 a1 (ci 1) s
      else
        F_X11_span_37 a1 (ci 0) s
set_option maxRecDepth 4000 in
theorem k_X11_span_r {N : Nat} {xs : Nat → Int32} (d : Nat) {r : Option Value × mH} {s : mG} {a1 : Int32} {a2 : Int32} {τ : (Int32 × mG)} (hJ : F_X11_span a1 a2 s = some τ) (hC : (fun τ => r = (some (.int τ.1), (SH, τ.2))) τ) : Rn N xs (d + 7) me172 0 [some (.ref 0), some (.int a1), some (.int a2)] [] (SH, s) r := by
  unfold F_X11_span at hJ
  refine Rn_sq srt172 0 3 (pc' := 5) (ls' := [some (.ref 0), some (.int a1), some (.int a2)]) (st' := [(.int (c16 1000)), (.int (ci 0)), (.int a1)]) (h1 := (SH, s)) rfl ?_
  obtain ⟨v2, h1, hJ⟩ := m_b1 hJ
  refine Rn_call srt172 3 rfl rfl rfl ⟨Nat.le_of_ble_eq_true rfl, Nat.le_of_ble_eq_true rfl, rfl, Nat.le_of_ble_eq_true rfl⟩ (k_X11_isWithin (d + 6) h1) (show Rn N xs (d + 7) me172 8 [some (.ref 0), some (.int a1), some (.int a2)] [(.int v2)] (SH, s) r from ?_)
  refine Rn_sq srt172 4 1 (pc' := (if v2 = 0 then 20 else 11)) (ls' := [some (.ref 0), some (.int a1), some (.int a2)]) (st' := []) (h1 := (SH, s)) rfl (Rn_if (fun h3 => ?_) (fun h3 => ?_))
  · replace hJ := m_ifp h3 hJ
    exact Rn_weaken (a := [none, none, none]) (b := [some (.ref 0), some (.int a1), some (.int a2)]) trivial rfl (k_X11_span_20 d hJ hC)
  · replace hJ := m_ifn h3 hJ
    refine Rn_sq srt172 5 3 (pc' := 14) (ls' := [some (.ref 0), some (.int a1), some (.int a2)]) (st' := [(.int (ci 1)), (.int (ci 0)), (.int a2)]) (h1 := (SH, s)) rfl ?_
    obtain ⟨v5, h4, hJ⟩ := m_b1 hJ
    refine Rn_call srt172 8 rfl rfl rfl ⟨Nat.le_of_ble_eq_true rfl, Nat.le_of_ble_eq_true rfl, rfl, Nat.le_of_ble_eq_true rfl⟩ (k_X11_isWithin (d + 6) h4) (show Rn N xs (d + 7) me172 17 [some (.ref 0), some (.int a1), some (.int a2)] [(.int v5)] (SH, s) r from ?_)
    refine Rn_sq srt172 9 1 (pc' := (if v5 = 0 then 20 else 22)) (ls' := [some (.ref 0), some (.int a1), some (.int a2)]) (st' := []) (h1 := (SH, s)) rfl (Rn_if (fun h6 => ?_) (fun h6 => ?_))
    · replace hJ := m_ifp h6 hJ
      exact Rn_weaken (a := [none, none, none]) (b := [some (.ref 0), some (.int a1), some (.int a2)]) trivial rfl (k_X11_span_20 d hJ hC)
    · replace hJ := m_ifn h6 hJ
      refine Rn_sq srt172 12 6 (pc' := (if a2 = (ci 1) then 32 else 36)) (ls' := [some (.ref 0), some (.int a1), some (.int a2)]) (st' := [(.int a1), (.ref 73)]) (h1 := (SH, s)) rfl (Rn_if (fun h7 => ?_) (fun h7 => ?_))
      · replace hJ := m_ifp h7 hJ
        refine Rn_sq srt172 18 2 (pc' := 37) (ls' := [some (.ref 0), some (.int a1), some (.int a2)]) (st' := [(.int (ci 1)), (.int a1), (.ref 73)]) (h1 := (SH, s)) rfl ?_
        exact Rn_weaken (a := [none, none, none]) (b := [some (.ref 0), some (.int a1), some (.int a2)]) trivial rfl (k_X11_span_37 d hJ hC)
      · replace hJ := m_ifn h7 hJ
        refine Rn_sq srt172 20 1 (pc' := 37) (ls' := [some (.ref 0), some (.int a1), some (.int a2)]) (st' := [(.int (ci 0)), (.int a1), (.ref 73)]) (h1 := (SH, s)) rfl ?_
        exact Rn_weaken (a := [none, none, none]) (b := [some (.ref 0), some (.int a1), some (.int a2)]) trivial rfl (k_X11_span_37 d hJ hC)
theorem k_X11_span {N : Nat} {xs : Nat → Int32} (d : Nat) {s : mG} {a1 : Int32} {a2 : Int32} {τ : (Int32 × mG)} (hJ : F_X11_span a1 a2 s = some τ) : Rn N xs (d + 7) me172 0 [some (.ref 0), some (.int a1), some (.int a2)] [] (SH, s) (some (.int τ.1), (SH, τ.2)) := k_X11_span_r d hJ rfl
/-! IsHeIn.counted(II)I -/
theorem srt173 : m_srt mc173 = true := by decide +kernel
def F_X11_counted_21 (s : mG) : Option (Int32 × mG) :=
  some ((ci (-1)), s)
set_option maxRecDepth 4000 in
theorem k_X11_counted_21 {N : Nat} {xs : Nat → Int32} (d : Nat) {r : Option Value × mH} {s : mG} {τ : (Int32 × mG)} (hJ : F_X11_counted_21 s = some τ) (hC : (fun τ => r = (some (.int τ.1), (SH, τ.2))) τ) : Rn N xs (d + 7) me173 21 [none, none, none] [] (SH, s) r := by
  unfold F_X11_counted_21 at hJ
  refine Rn_sq srt173 10 1 (pc' := 22) (ls' := [none, none, none]) (st' := [(.int (ci (-1)))]) (h1 := (SH, s)) rfl ?_
  rw [← Option.some.inj hJ] at hC
  have hC : r = (some (.int (ci (-1))), (SH, s)) := hC
  subst hC
  exact Rn_ret srt173 11 rfl rfl rfl
def F_X11_counted (a1 : Int32) (a2 : Int32) (s : mG) : Option (Int32 × mG) :=
  b1 (F_X2_isGuest 1 s a1) fun v2 =>
  if v2 = 0 then
    F_X11_counted_21 s
  else
    b1 (F_X11_isWithin s a2 (ci 0) (c8 12)) fun v5 =>
    if v5 = 0 then
      F_X11_counted_21 s
    else
      b2 (F_X0_amongCounted a1 a2 s) fun v9 s8 =>
      some (v9, s8)
set_option maxRecDepth 4000 in
theorem k_X11_counted_r {N : Nat} {xs : Nat → Int32} (d : Nat) {r : Option Value × mH} {s : mG} {a1 : Int32} {a2 : Int32} {τ : (Int32 × mG)} (hJ : F_X11_counted a1 a2 s = some τ) (hC : (fun τ => r = (some (.int τ.1), (SH, τ.2))) τ) : Rn N xs (d + 7) me173 0 [some (.ref 0), some (.int a1), some (.int a2)] [] (SH, s) r := by
  unfold F_X11_counted at hJ
  refine Rn_sq srt173 0 3 (pc' := 5) (ls' := [some (.ref 0), some (.int a1), some (.int a2)]) (st' := [(.int a1), (.ref 1)]) (h1 := (SH, s)) rfl ?_
  obtain ⟨v2, h1, hJ⟩ := m_b1 hJ
  refine Rn_call srt173 3 rfl rfl rfl ⟨Nat.le_of_ble_eq_true rfl, Nat.le_of_ble_eq_true rfl, rfl, Nat.le_of_ble_eq_true rfl⟩ (k_X2_isGuest 1 (d + 5) isH_1 h1) (show Rn N xs (d + 7) me173 8 [some (.ref 0), some (.int a1), some (.int a2)] [(.int v2)] (SH, s) r from ?_)
  refine Rn_sq srt173 4 1 (pc' := (if v2 = 0 then 21 else 11)) (ls' := [some (.ref 0), some (.int a1), some (.int a2)]) (st' := []) (h1 := (SH, s)) rfl (Rn_if (fun h3 => ?_) (fun h3 => ?_))
  · replace hJ := m_ifp h3 hJ
    exact Rn_weaken (a := [none, none, none]) (b := [some (.ref 0), some (.int a1), some (.int a2)]) trivial rfl (k_X11_counted_21 d hJ hC)
  · replace hJ := m_ifn h3 hJ
    refine Rn_sq srt173 5 3 (pc' := 15) (ls' := [some (.ref 0), some (.int a1), some (.int a2)]) (st' := [(.int (c8 12)), (.int (ci 0)), (.int a2)]) (h1 := (SH, s)) rfl ?_
    obtain ⟨v5, h4, hJ⟩ := m_b1 hJ
    refine Rn_call srt173 8 rfl rfl rfl ⟨Nat.le_of_ble_eq_true rfl, Nat.le_of_ble_eq_true rfl, rfl, Nat.le_of_ble_eq_true rfl⟩ (k_X11_isWithin (d + 6) h4) (show Rn N xs (d + 7) me173 18 [some (.ref 0), some (.int a1), some (.int a2)] [(.int v5)] (SH, s) r from ?_)
    refine Rn_sq srt173 9 1 (pc' := (if v5 = 0 then 21 else 23)) (ls' := [some (.ref 0), some (.int a1), some (.int a2)]) (st' := []) (h1 := (SH, s)) rfl (Rn_if (fun h6 => ?_) (fun h6 => ?_))
    · replace hJ := m_ifp h6 hJ
      exact Rn_weaken (a := [none, none, none]) (b := [some (.ref 0), some (.int a1), some (.int a2)]) trivial rfl (k_X11_counted_21 d hJ hC)
    · replace hJ := m_ifn h6 hJ
      refine Rn_sq srt173 12 4 (pc' := 29) (ls' := [some (.ref 0), some (.int a1), some (.int a2)]) (st' := [(.int a2), (.int a1), (.ref 73)]) (h1 := (SH, s)) rfl ?_
      obtain ⟨v9, s8, h7, hJ⟩ := m_b2 hJ
      refine Rn_call srt173 16 rfl rfl rfl ⟨Nat.le_of_ble_eq_true rfl, Nat.le_of_ble_eq_true rfl, rfl, Nat.le_of_ble_eq_true rfl⟩ (k_X0_amongCounted (d) h7) (show Rn N xs (d + 7) me173 32 [some (.ref 0), some (.int a1), some (.int a2)] [(.int v9)] (SH, s8) r from ?_)
      rw [← Option.some.inj hJ] at hC
      have hC : r = (some (.int v9), (SH, s8)) := hC
      subst hC
      exact Rn_ret srt173 17 rfl rfl rfl
theorem k_X11_counted {N : Nat} {xs : Nat → Int32} (d : Nat) {s : mG} {a1 : Int32} {a2 : Int32} {τ : (Int32 × mG)} (hJ : F_X11_counted a1 a2 s = some τ) : Rn N xs (d + 7) me173 0 [some (.ref 0), some (.int a1), some (.int a2)] [] (SH, s) (some (.int τ.1), (SH, τ.2)) := k_X11_counted_r d hJ rfl
/-! IsHeIn.empty(I)I -/
theorem srt174 : m_srt mc174 = true := by decide +kernel
def F_X11_empty (a1 : Int32) (s : mG) : Option (Int32 × mG) :=
  b1 (F_X11_isWithin s a1 (ci 0) (ci 3)) fun v2 =>
  if v2 = 0 then
    some ((ci (-1)), s)
  else
    b2 (F_X0_emptyChance a1 s) fun v6 s5 =>
    some (v6, s5)
set_option maxRecDepth 4000 in
theorem k_X11_empty_r {N : Nat} {xs : Nat → Int32} (d : Nat) {r : Option Value × mH} {s : mG} {a1 : Int32} {τ : (Int32 × mG)} (hJ : F_X11_empty a1 s = some τ) (hC : (fun τ => r = (some (.int τ.1), (SH, τ.2))) τ) : Rn N xs (d + 6) me174 0 [some (.ref 0), some (.int a1)] [] (SH, s) r := by
  unfold F_X11_empty at hJ
  refine Rn_sq srt174 0 3 (pc' := 3) (ls' := [some (.ref 0), some (.int a1)]) (st' := [(.int (ci 3)), (.int (ci 0)), (.int a1)]) (h1 := (SH, s)) rfl ?_
  obtain ⟨v2, h1, hJ⟩ := m_b1 hJ
  refine Rn_call srt174 3 rfl rfl rfl ⟨Nat.le_of_ble_eq_true rfl, Nat.le_of_ble_eq_true rfl, rfl, Nat.le_of_ble_eq_true rfl⟩ (k_X11_isWithin (d + 5) h1) (show Rn N xs (d + 6) me174 6 [some (.ref 0), some (.int a1)] [(.int v2)] (SH, s) r from ?_)
  refine Rn_sq srt174 4 1 (pc' := (if v2 = 0 then 20 else 9)) (ls' := [some (.ref 0), some (.int a1)]) (st' := []) (h1 := (SH, s)) rfl (Rn_if (fun h3 => ?_) (fun h3 => ?_))
  · replace hJ := m_ifp h3 hJ
    refine Rn_sq srt174 10 1 (pc' := 21) (ls' := [some (.ref 0), some (.int a1)]) (st' := [(.int (ci (-1)))]) (h1 := (SH, s)) rfl ?_
    rw [← Option.some.inj hJ] at hC
    have hC : r = (some (.int (ci (-1))), (SH, s)) := hC
    subst hC
    exact Rn_ret srt174 11 rfl rfl rfl
  · replace hJ := m_ifn h3 hJ
    refine Rn_sq srt174 5 3 (pc' := 14) (ls' := [some (.ref 0), some (.int a1)]) (st' := [(.int a1), (.ref 73)]) (h1 := (SH, s)) rfl ?_
    obtain ⟨v6, s5, h4, hJ⟩ := m_b2 hJ
    refine Rn_call srt174 8 rfl rfl rfl ⟨Nat.le_of_ble_eq_true rfl, Nat.le_of_ble_eq_true rfl, rfl, Nat.le_of_ble_eq_true rfl⟩ (k_X0_emptyChance (d) h4) (show Rn N xs (d + 6) me174 17 [some (.ref 0), some (.int a1)] [(.int v6)] (SH, s5) r from ?_)
    refine Rn_sq srt174 9 1 (pc' := 21) (ls' := [some (.ref 0), some (.int a1)]) (st' := [(.int v6)]) (h1 := (SH, s5)) rfl ?_
    rw [← Option.some.inj hJ] at hC
    have hC : r = (some (.int v6), (SH, s5)) := hC
    subst hC
    exact Rn_ret srt174 11 rfl rfl rfl
theorem k_X11_empty {N : Nat} {xs : Nat → Int32} (d : Nat) {s : mG} {a1 : Int32} {τ : (Int32 × mG)} (hJ : F_X11_empty a1 s = some τ) : Rn N xs (d + 6) me174 0 [some (.ref 0), some (.int a1)] [] (SH, s) (some (.int τ.1), (SH, τ.2)) := k_X11_empty_r d hJ rfl
/-! IsHeIn.pair(I)I -/
theorem srt175 : m_srt mc175 = true := by decide +kernel
def F_X11_pair_23 (s : mG) : Option (Int32 × mG) :=
  some ((ci (-1)), s)
set_option maxRecDepth 4000 in
theorem k_X11_pair_23 {N : Nat} {xs : Nat → Int32} (d : Nat) {r : Option Value × mH} {s : mG} {τ : (Int32 × mG)} (hJ : F_X11_pair_23 s = some τ) (hC : (fun τ => r = (some (.int τ.1), (SH, τ.2))) τ) : Rn N xs (d + 6) me175 23 [none, none] [] (SH, s) r := by
  unfold F_X11_pair_23 at hJ
  refine Rn_sq srt175 11 1 (pc' := 24) (ls' := [none, none]) (st' := [(.int (ci (-1)))]) (h1 := (SH, s)) rfl ?_
  rw [← Option.some.inj hJ] at hC
  have hC : r = (some (.int (ci (-1))), (SH, s)) := hC
  subst hC
  exact Rn_ret srt175 12 rfl rfl rfl
def F_X11_pair (a1 : Int32) (s : mG) : Option (Int32 × mG) :=
  b1 (F_X11_isWithin s a1 (ci 0) (ci 2)) fun v2 =>
  if v2 = 0 then
    F_X11_pair_23 s
  else
    if (ci 2) ≤ (s.1 2 3) then
      b2 (F_X0_bestPair a1 s) fun v7 s6 =>
      some (v7, s6)
    else
      F_X11_pair_23 s
set_option maxRecDepth 4000 in
theorem k_X11_pair_r {N : Nat} {xs : Nat → Int32} (d : Nat) {r : Option Value × mH} {s : mG} {a1 : Int32} {τ : (Int32 × mG)} (hJ : F_X11_pair a1 s = some τ) (hC : (fun τ => r = (some (.int τ.1), (SH, τ.2))) τ) : Rn N xs (d + 6) me175 0 [some (.ref 0), some (.int a1)] [] (SH, s) r := by
  unfold F_X11_pair at hJ
  refine Rn_sq srt175 0 3 (pc' := 3) (ls' := [some (.ref 0), some (.int a1)]) (st' := [(.int (ci 2)), (.int (ci 0)), (.int a1)]) (h1 := (SH, s)) rfl ?_
  obtain ⟨v2, h1, hJ⟩ := m_b1 hJ
  refine Rn_call srt175 3 rfl rfl rfl ⟨Nat.le_of_ble_eq_true rfl, Nat.le_of_ble_eq_true rfl, rfl, Nat.le_of_ble_eq_true rfl⟩ (k_X11_isWithin (d + 5) h1) (show Rn N xs (d + 6) me175 6 [some (.ref 0), some (.int a1)] [(.int v2)] (SH, s) r from ?_)
  refine Rn_sq srt175 4 1 (pc' := (if v2 = 0 then 23 else 9)) (ls' := [some (.ref 0), some (.int a1)]) (st' := []) (h1 := (SH, s)) rfl (Rn_if (fun h3 => ?_) (fun h3 => ?_))
  · replace hJ := m_ifp h3 hJ
    exact Rn_weaken (a := [none, none]) (b := [some (.ref 0), some (.int a1)]) trivial rfl (k_X11_pair_23 d hJ hC)
  · replace hJ := m_ifn h3 hJ
    refine Rn_sq srt175 5 6 (pc' := (if (ci 2) ≤ (s.1 2 3) then 25 else 23)) (ls' := [some (.ref 0), some (.int a1)]) (st' := []) (h1 := (SH, s)) rfl (Rn_if (fun h4 => ?_) (fun h4 => ?_))
    · replace hJ := m_ifp h4 hJ
      refine Rn_sq srt175 13 3 (pc' := 30) (ls' := [some (.ref 0), some (.int a1)]) (st' := [(.int a1), (.ref 73)]) (h1 := (SH, s)) rfl ?_
      obtain ⟨v7, s6, h5, hJ⟩ := m_b2 hJ
      refine Rn_call srt175 16 rfl rfl rfl ⟨Nat.le_of_ble_eq_true rfl, Nat.le_of_ble_eq_true rfl, rfl, Nat.le_of_ble_eq_true rfl⟩ (k_X0_bestPair (d) h5) (show Rn N xs (d + 6) me175 33 [some (.ref 0), some (.int a1)] [(.int v7)] (SH, s6) r from ?_)
      rw [← Option.some.inj hJ] at hC
      have hC : r = (some (.int v7), (SH, s6)) := hC
      subst hC
      exact Rn_ret srt175 17 rfl rfl rfl
    · replace hJ := m_ifn h4 hJ
      exact Rn_weaken (a := [none, none]) (b := [some (.ref 0), some (.int a1)]) trivial rfl (k_X11_pair_23 d hJ hC)
theorem k_X11_pair {N : Nat} {xs : Nat → Int32} (d : Nat) {s : mG} {a1 : Int32} {τ : (Int32 × mG)} (hJ : F_X11_pair a1 s = some τ) : Rn N xs (d + 6) me175 0 [some (.ref 0), some (.int a1)] [] (SH, s) (some (.int τ.1), (SH, τ.2)) := k_X11_pair_r d hJ rfl
end
