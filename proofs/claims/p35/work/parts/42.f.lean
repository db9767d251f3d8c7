noncomputable section
/-! IsHeIn$Reader.wordNumber(I)I -/
theorem srt87 : m_srt mc87 = true := by decide +kernel
def C_X7_wordNumber_7 (N : Nat) (xs : Nat → Int32) (s : mG) (d : Nat) (r : Option Value × mH) (C : (Int32) → Prop) : ((Int32 × Int32 × Int32 × Int32) ⊕ (Int32)) → Prop
  | .inl v => Rn N xs (d + 5) me87 7 [some (.ref 55), some (.int v.1), some (.int v.2.1), some (.int v.2.2.1), some (.int v.2.2.2)] [] (SH, s) r
  | .inr a => C a
def F_X7_wordNumber_50 (s : mG) (x1 : Int32) (x2 : Int32) (x3 : Int32) (x4 : Int32) : Option ((Int32 × Int32 × Int32 × Int32) ⊕ (Int32)) :=
  some (Sum.inl (x1, x2, x3, (x4 + ci 1)))
set_option maxRecDepth 4000 in
theorem k_X7_wordNumber_50 {N : Nat} {xs : Nat → Int32} (d : Nat) {r : Option Value × mH} {s : mG} {x1 : Int32} {x2 : Int32} {x3 : Int32} {x4 : Int32} {τ : ((Int32 × Int32 × Int32 × Int32) ⊕ (Int32))} (hJ : F_X7_wordNumber_50 s x1 x2 x3 x4 = some τ) (hC : (C_X7_wordNumber_7 N xs s d r (fun τ => r = (some (.int τ), (SH, s)))) τ) : Rn N xs (d + 5) me87 50 [some (.ref 55), some (.int x1), some (.int x2), some (.int x3), some (.int x4)] [] (SH, s) r := by
  unfold F_X7_wordNumber_50 at hJ
  refine Rn_sq srt87 28 2 (pc' := 7) (ls' := [some (.ref 55), some (.int x1), some (.int x2), some (.int x3), some (.int (x4 + ci 1))]) (st' := []) (h1 := (SH, s)) rfl ?_
  rw [← Option.some.inj hJ] at hC
  exact hC
def F_X7_wordNumber_B7 (s : mG) (x1 : Int32) (x2 : Int32) (x3 : Int32) (x4 : Int32) : Option ((Int32 × Int32 × Int32 × Int32) ⊕ (Int32)) :=
  b1 (F_J0_length_8abf5 1000100 s) fun v2 =>
  if v2 ≤ x4 then
    some (Sum.inr (ci (-1)))
  else
    b1 (F_J0_charAt_5068e 1000100 s x4) fun v5 =>
    if v5 = (c8 32) then
      b1 (F_X7_isWord s x1 x3 x4) fun v8 =>
      if v8 = 0 then
        F_X7_wordNumber_50 s x1 (x2 + ci 1) (x4 + (ci 1)) x4
      else
        some (Sum.inr x2)
    else
      F_X7_wordNumber_50 s x1 x2 x3 x4
set_option maxRecDepth 4000 in
theorem k_X7_wordNumber_B7 {N : Nat} {xs : Nat → Int32} (d : Nat) {r : Option Value × mH} {s : mG} {x1 : Int32} {x2 : Int32} {x3 : Int32} {x4 : Int32} {τ : ((Int32 × Int32 × Int32 × Int32) ⊕ (Int32))} (hJ : F_X7_wordNumber_B7 s x1 x2 x3 x4 = some τ) (hC : (C_X7_wordNumber_7 N xs s d r (fun τ => r = (some (.int τ), (SH, s)))) τ) : Rn N xs (d + 5) me87 7 [some (.ref 55), some (.int x1), some (.int x2), some (.int x3), some (.int x4)] [] (SH, s) r := by
  unfold F_X7_wordNumber_B7 at hJ
  refine Rn_sq srt87 6 2 (pc' := 11) (ls' := [some (.ref 55), some (.int x1), some (.int x2), some (.int x3), some (.int x4)]) (st' := [(.ref 1000100), (.int x4)]) (h1 := (SH, s)) rfl ?_
  obtain ⟨v2, h1, hJ⟩ := m_b1 hJ
  refine Rn_call srt87 8 rfl rfl rfl ⟨Nat.le_of_ble_eq_true rfl, Nat.le_of_ble_eq_true rfl, (recv_s (by decide)), Nat.le_of_ble_eq_true rfl⟩ (k_J0_length_8abf5 1000100 (d + 3) (by decide) h1) (show Rn N xs (d + 5) me87 14 [some (.ref 55), some (.int x1), some (.int x2), some (.int x3), some (.int x4)] [(.int v2), (.int x4)] (SH, s) r from ?_)
  refine Rn_sq srt87 9 1 (pc' := (if v2 ≤ x4 then 56 else 17)) (ls' := [some (.ref 55), some (.int x1), some (.int x2), some (.int x3), some (.int x4)]) (st' := []) (h1 := (SH, s)) rfl (Rn_if (fun h3 => ?_) (fun h3 => ?_))
  · replace hJ := m_ifp h3 hJ
    refine Rn_sq srt87 30 1 (pc' := 57) (ls' := [some (.ref 55), some (.int x1), some (.int x2), some (.int x3), some (.int x4)]) (st' := [(.int (ci (-1)))]) (h1 := (SH, s)) rfl ?_
    rw [← Option.some.inj hJ] at hC
    have hC : r = (some (.int (ci (-1))), (SH, s)) := hC
    subst hC
    exact Rn_ret srt87 31 rfl rfl rfl
  · replace hJ := m_ifn h3 hJ
    refine Rn_sq srt87 10 2 (pc' := 21) (ls' := [some (.ref 55), some (.int x1), some (.int x2), some (.int x3), some (.int x4)]) (st' := [(.int x4), (.ref 1000100)]) (h1 := (SH, s)) rfl ?_
    obtain ⟨v5, h4, hJ⟩ := m_b1 hJ
    refine Rn_call srt87 12 rfl rfl rfl ⟨Nat.le_of_ble_eq_true rfl, Nat.le_of_ble_eq_true rfl, (recv_s (by decide)), Nat.le_of_ble_eq_true rfl⟩ (k_J0_charAt_5068e 1000100 (d + 1) (by decide) h4) (show Rn N xs (d + 5) me87 24 [some (.ref 55), some (.int x1), some (.int x2), some (.int x3), some (.int x4)] [(.int v5)] (SH, s) r from ?_)
    refine Rn_sq srt87 13 2 (pc' := (if v5 = (c8 32) then 29 else 50)) (ls' := [some (.ref 55), some (.int x1), some (.int x2), some (.int x3), some (.int x4)]) (st' := []) (h1 := (SH, s)) rfl (Rn_if (fun h6 => ?_) (fun h6 => ?_))
    · replace hJ := m_ifp h6 hJ
      refine Rn_sq srt87 15 4 (pc' := 34) (ls' := [some (.ref 55), some (.int x1), some (.int x2), some (.int x3), some (.int x4)]) (st' := [(.int x4), (.int x3), (.int x1), (.ref 55)]) (h1 := (SH, s)) rfl ?_
      obtain ⟨v8, h7, hJ⟩ := m_b1 hJ
      refine Rn_call srt87 19 rfl rfl rfl ⟨Nat.le_of_ble_eq_true rfl, Nat.le_of_ble_eq_true rfl, rfl, Nat.le_of_ble_eq_true rfl⟩ (k_X7_isWord (d) h7) (show Rn N xs (d + 5) me87 37 [some (.ref 55), some (.int x1), some (.int x2), some (.int x3), some (.int x4)] [(.int v8)] (SH, s) r from ?_)
      refine Rn_sq srt87 20 1 (pc' := (if v8 = 0 then 42 else 40)) (ls' := [some (.ref 55), some (.int x1), some (.int x2), some (.int x3), some (.int x4)]) (st' := []) (h1 := (SH, s)) rfl (Rn_if (fun h9 => ?_) (fun h9 => ?_))
      · replace hJ := m_ifp h9 hJ
        refine Rn_sq srt87 23 5 (pc' := 50) (ls' := [some (.ref 55), some (.int x1), some (.int (x2 + ci 1)), some (.int (x4 + (ci 1))), some (.int x4)]) (st' := []) (h1 := (SH, s)) rfl ?_
        exact (k_X7_wordNumber_50 d hJ hC)
      · replace hJ := m_ifn h9 hJ
        refine Rn_sq srt87 21 1 (pc' := 41) (ls' := [some (.ref 55), some (.int x1), some (.int x2), some (.int x3), some (.int x4)]) (st' := [(.int x2)]) (h1 := (SH, s)) rfl ?_
        rw [← Option.some.inj hJ] at hC
        have hC : r = (some (.int x2), (SH, s)) := hC
        subst hC
        exact Rn_ret srt87 22 rfl rfl rfl
    · replace hJ := m_ifn h6 hJ
      exact (k_X7_wordNumber_50 d hJ hC)
def F_X7_wordNumber_L7 (s : mG) (x1 : Int32) (x2 : Int32) (x3 : Int32) (x4 : Int32) : Option (Int32) := whl (fun (v : (Int32 × Int32 × Int32 × Int32)) => F_X7_wordNumber_B7 s v.1 v.2.1 v.2.2.1 v.2.2.2) (x1, x2, x3, x4)
theorem k_X7_wordNumber_L7 {N : Nat} {xs : Nat → Int32} (d : Nat) {r : Option Value × mH} {s : mG} {x1 : Int32} {x2 : Int32} {x3 : Int32} {x4 : Int32} {τ : (Int32)} (hJ : F_X7_wordNumber_L7 s x1 x2 x3 x4 = some τ) (hC : (fun τ => r = (some (.int τ), (SH, s))) τ) : Rn N xs (d + 5) me87 7 [some (.ref 55), some (.int x1), some (.int x2), some (.int x3), some (.int x4)] [] (SH, s) r :=
  whl_link (P := fun (v : (Int32 × Int32 × Int32 × Int32)) => Rn N xs (d + 5) me87 7 [some (.ref 55), some (.int v.1), some (.int v.2.1), some (.int v.2.2.1), some (.int v.2.2.2)] [] (SH, s) r) (C := (C_X7_wordNumber_7 N xs s d r (fun τ => r = (some (.int τ), (SH, s))))) (fun v τ h1 h2 => k_X7_wordNumber_B7 d h1 h2) (fun _ h => h) (fun _ h => h) _ _ hJ hC
def F_X7_wordNumber (s : mG) (a1 : Int32) : Option (Int32) :=
  F_X7_wordNumber_L7 s a1 (ci 0) (ci 0) (ci 0)
set_option maxRecDepth 4000 in
theorem k_X7_wordNumber_r {N : Nat} {xs : Nat → Int32} (d : Nat) {r : Option Value × mH} {s : mG} {a1 : Int32} {τ : (Int32)} (hJ : F_X7_wordNumber s a1 = some τ) (hC : (fun τ => r = (some (.int τ), (SH, s))) τ) : Rn N xs (d + 5) me87 0 [some (.ref 55), some (.int a1), none, none, none] [] (SH, s) r := by
  unfold F_X7_wordNumber at hJ
  refine Rn_sq srt87 0 6 (pc' := 7) (ls' := [some (.ref 55), some (.int a1), some (.int (ci 0)), some (.int (ci 0)), some (.int (ci 0))]) (st' := []) (h1 := (SH, s)) rfl ?_
  exact (k_X7_wordNumber_L7 d hJ hC)
theorem k_X7_wordNumber {N : Nat} {xs : Nat → Int32} (d : Nat) {s : mG} {a1 : Int32} {τ : (Int32)} (hJ : F_X7_wordNumber s a1 = some τ) : Rn N xs (d + 5) me87 0 [some (.ref 55), some (.int a1), none, none, none] [] (SH, s) (some (.int τ), (SH, s)) := k_X7_wordNumber_r d hJ rfl
/-! IsHeIn$Reader.isLetter(I)Z -/
theorem srt90 : m_srt mc90 = true := by decide +kernel
def F_X7_isLetter_28 (s : mG) : Option (Int32) :=
  some (ci 0)
set_option maxRecDepth 4000 in
theorem k_X7_isLetter_28 {N : Nat} {xs : Nat → Int32} (d : Nat) {r : Option Value × mH} {s : mG} {τ : (Int32)} (hJ : F_X7_isLetter_28 s = some τ) (hC : (fun τ => r = (some (.int τ), (SH, s))) τ) : Rn N xs (d + 0) me90 28 [none] [] (SH, s) r := by
  unfold F_X7_isLetter_28 at hJ
  refine Rn_sq srt90 14 1 (pc' := 29) (ls' := [none]) (st' := [(.int (ci 0))]) (h1 := (SH, s)) rfl ?_
  rw [← Option.some.inj hJ] at hC
  have hC : r = (some (.int (ci 0)), (SH, s)) := hC
  subst hC
  exact Rn_ret srt90 15 rfl rfl (m_ret_b rfl (by decide))
def F_X7_isLetter_24 (s : mG) : Option (Int32) :=
  some (ci 1)
set_option maxRecDepth 4000 in
theorem k_X7_isLetter_24 {N : Nat} {xs : Nat → Int32} (d : Nat) {r : Option Value × mH} {s : mG} {τ : (Int32)} (hJ : F_X7_isLetter_24 s = some τ) (hC : (fun τ => r = (some (.int τ), (SH, s))) τ) : Rn N xs (d + 0) me90 24 [none] [] (SH, s) r := by
  unfold F_X7_isLetter_24 at hJ
  refine Rn_sq srt90 12 2 (pc' := 29) (ls' := [none]) (st' := [(.int (ci 1))]) (h1 := (SH, s)) rfl ?_
  rw [← Option.some.inj hJ] at hC
  have hC : r = (some (.int (ci 1)), (SH, s)) := hC
  subst hC
  exact Rn_ret srt90 15 rfl rfl (m_ret_b rfl (by decide))
def F_X7_isLetter_12 (s : mG) (x0 : Int32) : Option (Int32) :=
  if x0 < (c8 65) then
    F_X7_isLetter_28 s
  else
    if (c8 90) < x0 then
      F_X7_isLetter_28 s
    else
      F_X7_isLetter_24 s
set_option maxRecDepth 4000 in
theorem k_X7_isLetter_12 {N : Nat} {xs : Nat → Int32} (d : Nat) {r : Option Value × mH} {s : mG} {x0 : Int32} {τ : (Int32)} (hJ : F_X7_isLetter_12 s x0 = some τ) (hC : (fun τ => r = (some (.int τ), (SH, s))) τ) : Rn N xs (d + 0) me90 12 [some (.int x0)] [] (SH, s) r := by
  unfold F_X7_isLetter_12 at hJ
  refine Rn_sq srt90 6 3 (pc' := (if x0 < (c8 65) then 28 else 18)) (ls' := [some (.int x0)]) (st' := []) (h1 := (SH, s)) rfl (Rn_if (fun h2 => ?_) (fun h2 => ?_))
  · replace hJ := m_ifp h2 hJ
    exact Rn_weaken (a := [none]) (b := [some (.int x0)]) trivial rfl (k_X7_isLetter_28 d hJ hC)
  · replace hJ := m_ifn h2 hJ
    refine Rn_sq srt90 9 3 (pc' := (if (c8 90) < x0 then 28 else 24)) (ls' := [some (.int x0)]) (st' := []) (h1 := (SH, s)) rfl (Rn_if (fun h3 => ?_) (fun h3 => ?_))
    · replace hJ := m_ifp h3 hJ
      exact Rn_weaken (a := [none]) (b := [some (.int x0)]) trivial rfl (k_X7_isLetter_28 d hJ hC)
    · replace hJ := m_ifn h3 hJ
      exact Rn_weaken (a := [none]) (b := [some (.int x0)]) trivial rfl (k_X7_isLetter_24 d hJ hC)
def F_X7_isLetter (s : mG) (a1 : Int32) : Option (Int32) :=
  if a1 < (c8 97) then
    F_X7_isLetter_12 s a1
  else
    if a1 ≤ (c8 122) then
      F_X7_isLetter_24 s
    else
      F_X7_isLetter_12 s a1
set_option maxRecDepth 4000 in
theorem k_X7_isLetter_r {N : Nat} {xs : Nat → Int32} (d : Nat) {r : Option Value × mH} {s : mG} {a1 : Int32} {τ : (Int32)} (hJ : F_X7_isLetter s a1 = some τ) (hC : (fun τ => r = (some (.int τ), (SH, s))) τ) : Rn N xs (d + 0) me90 0 [some (.int a1)] [] (SH, s) r := by
  unfold F_X7_isLetter at hJ
  refine Rn_sq srt90 0 3 (pc' := (if a1 < (c8 97) then 12 else 6)) (ls' := [some (.int a1)]) (st' := []) (h1 := (SH, s)) rfl (Rn_if (fun h1 => ?_) (fun h1 => ?_))
  · replace hJ := m_ifp h1 hJ
    exact (k_X7_isLetter_12 d hJ hC)
  · replace hJ := m_ifn h1 hJ
    refine Rn_sq srt90 3 3 (pc' := (if a1 ≤ (c8 122) then 24 else 12)) (ls' := [some (.int a1)]) (st' := []) (h1 := (SH, s)) rfl (Rn_if (fun h4 => ?_) (fun h4 => ?_))
    · replace hJ := m_ifp h4 hJ
      exact Rn_weaken (a := [none]) (b := [some (.int a1)]) trivial rfl (k_X7_isLetter_24 d hJ hC)
    · replace hJ := m_ifn h4 hJ
      exact (k_X7_isLetter_12 d hJ hC)
theorem k_X7_isLetter {N : Nat} {xs : Nat → Int32} (d : Nat) {s : mG} {a1 : Int32} {τ : (Int32)} (hJ : F_X7_isLetter s a1 = some τ) : Rn N xs (d + 0) me90 0 [some (.int a1)] [] (SH, s) (some (.int τ), (SH, s)) := k_X7_isLetter_r d hJ rfl
/-! IsHeIn$Reader.splitWord()V -/
theorem srt85 : m_srt mc85 = true := by decide +kernel
def C_X7_splitWord_5 (N : Nat) (xs : Nat → Int32) (d : Nat) (r : Option Value × mH) (C : (mG) → Prop) : ((Int32 × mG) ⊕ (mG)) → Prop
  | .inl v => Rn N xs (d + 6) me85 5 [some (.ref 55), some (.int v.1), none] [] (SH, v.2) r
  | .inr a => C a
def F_X7_splitWord_68 (x1 : Int32) (y1 : Int32) (s : mG) : Option (mG) :=
  b1 (F_X7_addToken y1 (ci 0) x1 s) fun s6 =>
  some s6
set_option maxRecDepth 4000 in
theorem k_X7_splitWord_68 {N : Nat} {xs : Nat → Int32} (d : Nat) {r : Option Value × mH} {s : mG} {x1 : Int32} {y1 : Int32} {τ : (mG)} (hJ : F_X7_splitWord_68 x1 y1 s = some τ) (hC : (fun τ => r = (none, (SH, τ))) τ) : Rn N xs (d + 6) me85 68 [none, some (.int x1), none] [(.int y1), (.ref 55)] (SH, s) r := by
  unfold F_X7_splitWord_68 at hJ
  refine Rn_sq srt85 35 2 (pc' := 70) (ls' := [none, some (.int x1), none]) (st' := [(.int x1), (.int (ci 0)), (.int y1), (.ref 55)]) (h1 := (SH, s)) rfl ?_
  obtain ⟨s6, h5, hJ⟩ := m_b1 hJ
  refine Rn_call srt85 37 rfl rfl rfl ⟨Nat.le_of_ble_eq_true rfl, Nat.le_of_ble_eq_true rfl, rfl, Nat.le_of_ble_eq_true rfl⟩ (k_X7_addToken (d + 3) h5) (show Rn N xs (d + 6) me85 73 [none, some (.int x1), none] [] (SH, s6) r from ?_)
  rw [← Option.some.inj hJ] at hC
  have hC : r = (none, (SH, s6)) := hC
  subst hC
  exact Rn_ret srt85 38 rfl rfl rfl
def F_X7_splitWord_46 (x1 : Int32) (s : mG) : Option (mG) :=
  b1 (F_X7_wordNumber s x1) fun v3 =>
  if v3 = (ci (-1)) then
    F_X7_splitWord_68 x1 (c8 (-3)) s
  else
    F_X7_splitWord_68 x1 ((c16 256) + v3) s
set_option maxRecDepth 4000 in
theorem k_X7_splitWord_46 {N : Nat} {xs : Nat → Int32} (d : Nat) {r : Option Value × mH} {s : mG} {x1 : Int32} {τ : (mG)} (hJ : F_X7_splitWord_46 x1 s = some τ) (hC : (fun τ => r = (none, (SH, τ))) τ) : Rn N xs (d + 6) me85 46 [some (.ref 55), some (.int x1), none] [] (SH, s) r := by
  unfold F_X7_splitWord_46 at hJ
  refine Rn_sq srt85 22 2 (pc' := 48) (ls' := [some (.ref 55), some (.int x1), none]) (st' := [(.int x1), (.ref 55)]) (h1 := (SH, s)) rfl ?_
  obtain ⟨v3, h2, hJ⟩ := m_b1 hJ
  refine Rn_call srt85 24 rfl rfl rfl ⟨Nat.le_of_ble_eq_true rfl, Nat.le_of_ble_eq_true rfl, rfl, Nat.le_of_ble_eq_true rfl⟩ (k_X7_wordNumber (d) h2) (show Rn N xs (d + 6) me85 51 [some (.ref 55), some (.int x1), none] [(.int v3)] (SH, s) r from ?_)
  refine Rn_sq srt85 25 5 (pc' := (if v3 = (ci (-1)) then 58 else 63)) (ls' := [some (.ref 55), some (.int x1), some (.int v3)]) (st' := [(.ref 55)]) (h1 := (SH, s)) rfl (Rn_if (fun h4 => ?_) (fun h4 => ?_))
  · replace hJ := m_ifp h4 hJ
    refine Rn_sq srt85 30 2 (pc' := 68) (ls' := [some (.ref 55), some (.int x1), some (.int v3)]) (st' := [(.int (c8 (-3))), (.ref 55)]) (h1 := (SH, s)) rfl ?_
    exact Rn_weaken (a := [none, some (.int x1), none]) (b := [some (.ref 55), some (.int x1), some (.int v3)]) (And.intro rfl trivial) rfl (k_X7_splitWord_68 d hJ hC)
  · replace hJ := m_ifn h4 hJ
    refine Rn_sq srt85 32 3 (pc' := 68) (ls' := [some (.ref 55), some (.int x1), some (.int v3)]) (st' := [(.int ((c16 256) + v3)), (.ref 55)]) (h1 := (SH, s)) rfl ?_
    exact Rn_weaken (a := [none, some (.int x1), none]) (b := [some (.ref 55), some (.int x1), some (.int v3)]) (And.intro rfl trivial) rfl (k_X7_splitWord_68 d hJ hC)
def F_X7_splitWord_B5 (x1 : Int32) (s : mG) : Option ((Int32 × mG) ⊕ (mG)) :=
  if (s.1 55 9) ≤ (s.1 55 13) then
    b1 (F_X7_splitWord_46 x1 s) fun τ => some (Sum.inr τ)
  else
    b1 (F_X11_cell 64 s (s.1 55 13)) fun v8 =>
    b1 (F_X7_isLetter s v8) fun v10 =>
    if v10 = 0 then
      b1 (F_X7_splitWord_46 x1 s) fun τ => some (Sum.inr τ)
    else
      let s12 : mG := (mu s.1 55 13 ((s.1 55 13) + (ci 1)), s.2)
      some (Sum.inl (x1, s12))
set_option maxRecDepth 4000 in
theorem k_X7_splitWord_B5 {N : Nat} {xs : Nat → Int32} (d : Nat) {r : Option Value × mH} {s : mG} {x1 : Int32} {τ : ((Int32 × mG) ⊕ (mG))} (hJ : F_X7_splitWord_B5 x1 s = some τ) (hC : (C_X7_splitWord_5 N xs d r (fun τ => r = (none, (SH, τ)))) τ) : Rn N xs (d + 6) me85 5 [some (.ref 55), some (.int x1), none] [] (SH, s) r := by
  unfold F_X7_splitWord_B5 at hJ
  refine Rn_sq srt85 3 5 (pc' := (if (s.1 55 9) ≤ (s.1 55 13) then 46 else 16)) (ls' := [some (.ref 55), some (.int x1), none]) (st' := []) (h1 := (SH, s)) rfl (Rn_if (fun h1 => ?_) (fun h1 => ?_))
  · replace hJ := m_ifp h1 hJ
    obtain ⟨τ1, hJ1, hJ⟩ := m_b1 hJ
    rw [← Option.some.inj hJ] at hC
    exact (k_X7_splitWord_46 d hJ1 hC)
  · replace hJ := m_ifn h1 hJ
    refine Rn_sq srt85 8 4 (pc' := 24) (ls' := [some (.ref 55), some (.int x1), none]) (st' := [(.int (s.1 55 13)), (.ref 64)]) (h1 := (SH, s)) rfl ?_
    obtain ⟨v8, h7, hJ⟩ := m_b1 hJ
    refine Rn_call srt85 12 rfl rfl rfl ⟨Nat.le_of_ble_eq_true rfl, Nat.le_of_ble_eq_true rfl, rfl, Nat.le_of_ble_eq_true rfl⟩ (k_X11_cell 64 (d + 5) h7) (show Rn N xs (d + 6) me85 27 [some (.ref 55), some (.int x1), none] [(.int v8)] (SH, s) r from ?_)
    obtain ⟨v10, h9, hJ⟩ := m_b1 hJ
    refine Rn_call srt85 13 rfl rfl rfl ⟨Nat.le_of_ble_eq_true rfl, Nat.le_of_ble_eq_true rfl, rfl, Nat.le_of_ble_eq_true rfl⟩ (k_X7_isLetter (d + 5) h9) (show Rn N xs (d + 6) me85 30 [some (.ref 55), some (.int x1), none] [(.int v10)] (SH, s) r from ?_)
    refine Rn_sq srt85 14 1 (pc' := (if v10 = 0 then 46 else 33)) (ls' := [some (.ref 55), some (.int x1), none]) (st' := []) (h1 := (SH, s)) rfl (Rn_if (fun h11 => ?_) (fun h11 => ?_))
    · replace hJ := m_ifp h11 hJ
      obtain ⟨τ1, hJ1, hJ⟩ := m_b1 hJ
      rw [← Option.some.inj hJ] at hC
      exact (k_X7_splitWord_46 d hJ1 hC)
    · replace hJ := m_ifn h11 hJ
      extract_lets +onlyGivenNames s12 at hJ
      refine Rn_sq srt85 15 7 (pc' := 5) (ls' := [some (.ref 55), some (.int x1), none]) (st' := []) (h1 := (SH, s12)) rfl ?_
      rw [← Option.some.inj hJ] at hC
      exact hC
def F_X7_splitWord_L5 (x1 : Int32) (s : mG) : Option (mG) := whl (fun (v : (Int32 × mG)) => F_X7_splitWord_B5 v.1 v.2) (x1, s)
theorem k_X7_splitWord_L5 {N : Nat} {xs : Nat → Int32} (d : Nat) {r : Option Value × mH} {s : mG} {x1 : Int32} {τ : (mG)} (hJ : F_X7_splitWord_L5 x1 s = some τ) (hC : (fun τ => r = (none, (SH, τ))) τ) : Rn N xs (d + 6) me85 5 [some (.ref 55), some (.int x1), none] [] (SH, s) r :=
  whl_link (P := fun (v : (Int32 × mG)) => Rn N xs (d + 6) me85 5 [some (.ref 55), some (.int v.1), none] [] (SH, v.2) r) (C := (C_X7_splitWord_5 N xs d r (fun τ => r = (none, (SH, τ))))) (fun v τ h1 h2 => k_X7_splitWord_B5 d h1 h2) (fun _ h => h) (fun _ h => h) _ _ hJ hC
def F_X7_splitWord (s : mG) : Option (mG) :=
  F_X7_splitWord_L5 (s.1 55 13) s
set_option maxRecDepth 4000 in
theorem k_X7_splitWord_r {N : Nat} {xs : Nat → Int32} (d : Nat) {r : Option Value × mH} {s : mG} {τ : (mG)} (hJ : F_X7_splitWord s = some τ) (hC : (fun τ => r = (none, (SH, τ))) τ) : Rn N xs (d + 6) me85 0 [some (.ref 55), none, none] [] (SH, s) r := by
  unfold F_X7_splitWord at hJ
  refine Rn_sq srt85 0 3 (pc' := 5) (ls' := [some (.ref 55), some (.int (s.1 55 13)), none]) (st' := []) (h1 := (SH, s)) rfl ?_
  exact (k_X7_splitWord_L5 d hJ hC)
theorem k_X7_splitWord {N : Nat} {xs : Nat → Int32} (d : Nat) {s : mG} {τ : (mG)} (hJ : F_X7_splitWord s = some τ) : Rn N xs (d + 6) me85 0 [some (.ref 55), none, none] [] (SH, s) (none, (SH, τ)) := k_X7_splitWord_r d hJ rfl
/-! IsHeIn$Reader.isDigit(I)Z -/
theorem srt91 : m_srt mc91 = true := by decide +kernel
def F_X7_isDigit_16 (s : mG) : Option (Int32) :=
  some (ci 0)
set_option maxRecDepth 4000 in
theorem k_X7_isDigit_16 {N : Nat} {xs : Nat → Int32} (d : Nat) {r : Option Value × mH} {s : mG} {τ : (Int32)} (hJ : F_X7_isDigit_16 s = some τ) (hC : (fun τ => r = (some (.int τ), (SH, s))) τ) : Rn N xs (d + 0) me91 16 [none] [] (SH, s) r := by
  unfold F_X7_isDigit_16 at hJ
  refine Rn_sq srt91 8 1 (pc' := 17) (ls' := [none]) (st' := [(.int (ci 0))]) (h1 := (SH, s)) rfl ?_
  rw [← Option.some.inj hJ] at hC
  have hC : r = (some (.int (ci 0)), (SH, s)) := hC
  subst hC
  exact Rn_ret srt91 9 rfl rfl (m_ret_b rfl (by decide))
def F_X7_isDigit (s : mG) (a1 : Int32) : Option (Int32) :=
  if a1 < (c8 48) then
    F_X7_isDigit_16 s
  else
    if (c8 57) < a1 then
      F_X7_isDigit_16 s
    else
      some (ci 1)
set_option maxRecDepth 4000 in
theorem k_X7_isDigit_r {N : Nat} {xs : Nat → Int32} (d : Nat) {r : Option Value × mH} {s : mG} {a1 : Int32} {τ : (Int32)} (hJ : F_X7_isDigit s a1 = some τ) (hC : (fun τ => r = (some (.int τ), (SH, s))) τ) : Rn N xs (d + 0) me91 0 [some (.int a1)] [] (SH, s) r := by
  unfold F_X7_isDigit at hJ
  refine Rn_sq srt91 0 3 (pc' := (if a1 < (c8 48) then 16 else 6)) (ls' := [some (.int a1)]) (st' := []) (h1 := (SH, s)) rfl (Rn_if (fun h1 => ?_) (fun h1 => ?_))
  · replace hJ := m_ifp h1 hJ
    exact Rn_weaken (a := [none]) (b := [some (.int a1)]) trivial rfl (k_X7_isDigit_16 d hJ hC)
  · replace hJ := m_ifn h1 hJ
    refine Rn_sq srt91 3 3 (pc' := (if (c8 57) < a1 then 16 else 12)) (ls' := [some (.int a1)]) (st' := []) (h1 := (SH, s)) rfl (Rn_if (fun h2 => ?_) (fun h2 => ?_))
    · replace hJ := m_ifp h2 hJ
      exact Rn_weaken (a := [none]) (b := [some (.int a1)]) trivial rfl (k_X7_isDigit_16 d hJ hC)
    · replace hJ := m_ifn h2 hJ
      refine Rn_sq srt91 6 2 (pc' := 17) (ls' := [some (.int a1)]) (st' := [(.int (ci 1))]) (h1 := (SH, s)) rfl ?_
      rw [← Option.some.inj hJ] at hC
      have hC : r = (some (.int (ci 1)), (SH, s)) := hC
      subst hC
      exact Rn_ret srt91 9 rfl rfl (m_ret_b rfl (by decide))
theorem k_X7_isDigit {N : Nat} {xs : Nat → Int32} (d : Nat) {s : mG} {a1 : Int32} {τ : (Int32)} (hJ : F_X7_isDigit s a1 = some τ) : Rn N xs (d + 0) me91 0 [some (.int a1)] [] (SH, s) (some (.int τ), (SH, s)) := k_X7_isDigit_r d hJ rfl
/-! IsHeIn$Reader.splitNumber()V -/
theorem srt86 : m_srt mc86 = true := by decide +kernel
def C_X7_splitNumber_7 (N : Nat) (xs : Nat → Int32) (d : Nat) (r : Option Value × mH) (C : (mG) → Prop) : ((Int32 × Int32 × mG) ⊕ (mG)) → Prop
  | .inl v => Rn N xs (d + 3) me86 7 [some (.ref 55), some (.int v.1), some (.int v.2.1)] [] (SH, v.2.2) r
  | .inr a => C a
def F_X7_splitNumber_100 (x1 : Int32) (x2 : Int32) (y1 : Int32) (s : mG) : Option (mG) :=
  b1 (F_X7_addToken y1 x2 x1 s) fun s4 =>
  some s4
set_option maxRecDepth 4000 in
theorem k_X7_splitNumber_100 {N : Nat} {xs : Nat → Int32} (d : Nat) {r : Option Value × mH} {s : mG} {x1 : Int32} {x2 : Int32} {y1 : Int32} {τ : (mG)} (hJ : F_X7_splitNumber_100 x1 x2 y1 s = some τ) (hC : (fun τ => r = (none, (SH, τ))) τ) : Rn N xs (d + 3) me86 100 [none, some (.int x1), some (.int x2)] [(.int y1), (.ref 55)] (SH, s) r := by
  unfold F_X7_splitNumber_100 at hJ
  refine Rn_sq srt86 54 2 (pc' := 102) (ls' := [none, some (.int x1), some (.int x2)]) (st' := [(.int x1), (.int x2), (.int y1), (.ref 55)]) (h1 := (SH, s)) rfl ?_
  obtain ⟨s4, h3, hJ⟩ := m_b1 hJ
  refine Rn_call srt86 56 rfl rfl rfl ⟨Nat.le_of_ble_eq_true rfl, Nat.le_of_ble_eq_true rfl, rfl, Nat.le_of_ble_eq_true rfl⟩ (k_X7_addToken (d) h3) (show Rn N xs (d + 3) me86 105 [none, some (.int x1), some (.int x2)] [] (SH, s4) r from ?_)
  rw [← Option.some.inj hJ] at hC
  have hC : r = (none, (SH, s4)) := hC
  subst hC
  exact Rn_ret srt86 57 rfl rfl rfl
def F_X7_splitNumber_82 (x1 : Int32) (x2 : Int32) (s : mG) : Option (mG) :=
  if ((s.1 55 13) - x1) ≤ (ci 4) then
    F_X7_splitNumber_100 x1 x2 (c8 (-2)) s
  else
    F_X7_splitNumber_100 x1 x2 (c8 (-3)) s
set_option maxRecDepth 4000 in
theorem k_X7_splitNumber_82 {N : Nat} {xs : Nat → Int32} (d : Nat) {r : Option Value × mH} {s : mG} {x1 : Int32} {x2 : Int32} {τ : (mG)} (hJ : F_X7_splitNumber_82 x1 x2 s = some τ) (hC : (fun τ => r = (none, (SH, τ))) τ) : Rn N xs (d + 3) me86 82 [some (.ref 55), some (.int x1), some (.int x2)] [] (SH, s) r := by
  unfold F_X7_splitNumber_82 at hJ
  refine Rn_sq srt86 44 7 (pc' := (if ((s.1 55 13) - x1) ≤ (ci 4) then 98 else 93)) (ls' := [some (.ref 55), some (.int x1), some (.int x2)]) (st' := [(.ref 55)]) (h1 := (SH, s)) rfl (Rn_if (fun h2 => ?_) (fun h2 => ?_))
  · replace hJ := m_ifp h2 hJ
    refine Rn_sq srt86 53 1 (pc' := 100) (ls' := [some (.ref 55), some (.int x1), some (.int x2)]) (st' := [(.int (c8 (-2))), (.ref 55)]) (h1 := (SH, s)) rfl ?_
    exact Rn_weaken (a := [none, some (.int x1), some (.int x2)]) (b := [some (.ref 55), some (.int x1), some (.int x2)]) (And.intro rfl (And.intro rfl trivial)) rfl (k_X7_splitNumber_100 d hJ hC)
  · replace hJ := m_ifn h2 hJ
    refine Rn_sq srt86 51 2 (pc' := 100) (ls' := [some (.ref 55), some (.int x1), some (.int x2)]) (st' := [(.int (c8 (-3))), (.ref 55)]) (h1 := (SH, s)) rfl ?_
    exact Rn_weaken (a := [none, some (.int x1), some (.int x2)]) (b := [some (.ref 55), some (.int x1), some (.int x2)]) (And.intro rfl (And.intro rfl trivial)) rfl (k_X7_splitNumber_100 d hJ hC)
def F_X7_splitNumber_68 (x1 : Int32) (y0 : Int32) (s : mG) : Option ((Int32 × Int32 × mG) ⊕ (mG)) :=
  let s11 : mG := (mu s.1 55 13 ((s.1 55 13) + (ci 1)), s.2)
  some (Sum.inl (x1, y0, s11))
set_option maxRecDepth 4000 in
theorem k_X7_splitNumber_68 {N : Nat} {xs : Nat → Int32} (d : Nat) {r : Option Value × mH} {s : mG} {x1 : Int32} {y0 : Int32} {τ : ((Int32 × Int32 × mG) ⊕ (mG))} (hJ : F_X7_splitNumber_68 x1 y0 s = some τ) (hC : (C_X7_splitNumber_7 N xs d r (fun τ => r = (none, (SH, τ)))) τ) : Rn N xs (d + 3) me86 68 [some (.ref 55), some (.int x1), none] [(.int y0)] (SH, s) r := by
  unfold F_X7_splitNumber_68 at hJ
  extract_lets +onlyGivenNames s11 at hJ
  refine Rn_sq srt86 36 8 (pc' := 7) (ls' := [some (.ref 55), some (.int x1), some (.int y0)]) (st' := []) (h1 := (SH, s11)) rfl ?_
  rw [← Option.some.inj hJ] at hC
  exact hC
def F_X7_splitNumber_B7 (x1 : Int32) (x2 : Int32) (s : mG) : Option ((Int32 × Int32 × mG) ⊕ (mG)) :=
  if (s.1 55 9) ≤ (s.1 55 13) then
    b1 (F_X7_splitNumber_82 x1 x2 s) fun τ => some (Sum.inr τ)
  else
    b1 (F_X11_cell 64 s (s.1 55 13)) fun v6 =>
    b1 (F_X7_isDigit s v6) fun v8 =>
    if v8 = 0 then
      b1 (F_X7_splitNumber_82 x1 x2 s) fun τ => some (Sum.inr τ)
    else
      if (ci 4) ≤ ((s.1 55 13) - x1) then
        F_X7_splitNumber_68 x1 (ci 0) s
      else
        b1 (F_X11_cell 64 s (s.1 55 13)) fun v13 =>
        F_X7_splitNumber_68 x1 (((x2 * (c8 10)) + v13) - (c8 48)) s
set_option maxRecDepth 4000 in
theorem k_X7_splitNumber_B7 {N : Nat} {xs : Nat → Int32} (d : Nat) {r : Option Value × mH} {s : mG} {x1 : Int32} {x2 : Int32} {τ : ((Int32 × Int32 × mG) ⊕ (mG))} (hJ : F_X7_splitNumber_B7 x1 x2 s = some τ) (hC : (C_X7_splitNumber_7 N xs d r (fun τ => r = (none, (SH, τ)))) τ) : Rn N xs (d + 3) me86 7 [some (.ref 55), some (.int x1), some (.int x2)] [] (SH, s) r := by
  unfold F_X7_splitNumber_B7 at hJ
  refine Rn_sq srt86 5 5 (pc' := (if (s.1 55 9) ≤ (s.1 55 13) then 82 else 18)) (ls' := [some (.ref 55), some (.int x1), some (.int x2)]) (st' := []) (h1 := (SH, s)) rfl (Rn_if (fun h1 => ?_) (fun h1 => ?_))
  · replace hJ := m_ifp h1 hJ
    obtain ⟨τ1, hJ1, hJ⟩ := m_b1 hJ
    rw [← Option.some.inj hJ] at hC
    exact (k_X7_splitNumber_82 d hJ1 hC)
  · replace hJ := m_ifn h1 hJ
    refine Rn_sq srt86 10 4 (pc' := 26) (ls' := [some (.ref 55), some (.int x1), some (.int x2)]) (st' := [(.int (s.1 55 13)), (.ref 64)]) (h1 := (SH, s)) rfl ?_
    obtain ⟨v6, h5, hJ⟩ := m_b1 hJ
    refine Rn_call srt86 14 rfl rfl rfl ⟨Nat.le_of_ble_eq_true rfl, Nat.le_of_ble_eq_true rfl, rfl, Nat.le_of_ble_eq_true rfl⟩ (k_X11_cell 64 (d + 2) h5) (show Rn N xs (d + 3) me86 29 [some (.ref 55), some (.int x1), some (.int x2)] [(.int v6)] (SH, s) r from ?_)
    obtain ⟨v8, h7, hJ⟩ := m_b1 hJ
    refine Rn_call srt86 15 rfl rfl rfl ⟨Nat.le_of_ble_eq_true rfl, Nat.le_of_ble_eq_true rfl, rfl, Nat.le_of_ble_eq_true rfl⟩ (k_X7_isDigit (d + 2) h7) (show Rn N xs (d + 3) me86 32 [some (.ref 55), some (.int x1), some (.int x2)] [(.int v8)] (SH, s) r from ?_)
    refine Rn_sq srt86 16 1 (pc' := (if v8 = 0 then 82 else 35)) (ls' := [some (.ref 55), some (.int x1), some (.int x2)]) (st' := []) (h1 := (SH, s)) rfl (Rn_if (fun h9 => ?_) (fun h9 => ?_))
    · replace hJ := m_ifp h9 hJ
      obtain ⟨τ1, hJ1, hJ⟩ := m_b1 hJ
      rw [← Option.some.inj hJ] at hC
      exact (k_X7_splitNumber_82 d hJ1 hC)
    · replace hJ := m_ifn h9 hJ
      refine Rn_sq srt86 17 6 (pc' := (if (ci 4) ≤ ((s.1 55 13) - x1) then 67 else 45)) (ls' := [some (.ref 55), some (.int x1), some (.int x2)]) (st' := []) (h1 := (SH, s)) rfl (Rn_if (fun h10 => ?_) (fun h10 => ?_))
      · replace hJ := m_ifp h10 hJ
        refine Rn_sq srt86 35 1 (pc' := 68) (ls' := [some (.ref 55), some (.int x1), some (.int x2)]) (st' := [(.int (ci 0))]) (h1 := (SH, s)) rfl ?_
        exact Rn_weaken (a := [some (.ref 55), some (.int x1), none]) (b := [some (.ref 55), some (.int x1), some (.int x2)]) (And.intro rfl (And.intro rfl trivial)) rfl (k_X7_splitNumber_68 d hJ hC)
      · replace hJ := m_ifn h10 hJ
        refine Rn_sq srt86 23 7 (pc' := 57) (ls' := [some (.ref 55), some (.int x1), some (.int x2)]) (st' := [(.int (s.1 55 13)), (.ref 64), (.int (x2 * (c8 10)))]) (h1 := (SH, s)) rfl ?_
        obtain ⟨v13, h12, hJ⟩ := m_b1 hJ
        refine Rn_call srt86 30 rfl rfl rfl ⟨Nat.le_of_ble_eq_true rfl, Nat.le_of_ble_eq_true rfl, rfl, Nat.le_of_ble_eq_true rfl⟩ (k_X11_cell 64 (d + 2) h12) (show Rn N xs (d + 3) me86 60 [some (.ref 55), some (.int x1), some (.int x2)] [(.int v13), (.int (x2 * (c8 10)))] (SH, s) r from ?_)
        refine Rn_sq srt86 31 4 (pc' := 68) (ls' := [some (.ref 55), some (.int x1), some (.int x2)]) (st' := [(.int (((x2 * (c8 10)) + v13) - (c8 48)))]) (h1 := (SH, s)) rfl ?_
        exact Rn_weaken (a := [some (.ref 55), some (.int x1), none]) (b := [some (.ref 55), some (.int x1), some (.int x2)]) (And.intro rfl (And.intro rfl trivial)) rfl (k_X7_splitNumber_68 d hJ hC)
def F_X7_splitNumber_L7 (x1 : Int32) (x2 : Int32) (s : mG) : Option (mG) := whl (fun (v : (Int32 × Int32 × mG)) => F_X7_splitNumber_B7 v.1 v.2.1 v.2.2) (x1, x2, s)
theorem k_X7_splitNumber_L7 {N : Nat} {xs : Nat → Int32} (d : Nat) {r : Option Value × mH} {s : mG} {x1 : Int32} {x2 : Int32} {τ : (mG)} (hJ : F_X7_splitNumber_L7 x1 x2 s = some τ) (hC : (fun τ => r = (none, (SH, τ))) τ) : Rn N xs (d + 3) me86 7 [some (.ref 55), some (.int x1), some (.int x2)] [] (SH, s) r :=
  whl_link (P := fun (v : (Int32 × Int32 × mG)) => Rn N xs (d + 3) me86 7 [some (.ref 55), some (.int v.1), some (.int v.2.1)] [] (SH, v.2.2) r) (C := (C_X7_splitNumber_7 N xs d r (fun τ => r = (none, (SH, τ))))) (fun v τ h1 h2 => k_X7_splitNumber_B7 d h1 h2) (fun _ h => h) (fun _ h => h) _ _ hJ hC
def F_X7_splitNumber (s : mG) : Option (mG) :=
  F_X7_splitNumber_L7 (s.1 55 13) (ci 0) s
set_option maxRecDepth 4000 in
theorem k_X7_splitNumber_r {N : Nat} {xs : Nat → Int32} (d : Nat) {r : Option Value × mH} {s : mG} {τ : (mG)} (hJ : F_X7_splitNumber s = some τ) (hC : (fun τ => r = (none, (SH, τ))) τ) : Rn N xs (d + 3) me86 0 [some (.ref 55), none, none] [] (SH, s) r := by
  unfold F_X7_splitNumber at hJ
  refine Rn_sq srt86 0 5 (pc' := 7) (ls' := [some (.ref 55), some (.int (s.1 55 13)), some (.int (ci 0))]) (st' := []) (h1 := (SH, s)) rfl ?_
  exact (k_X7_splitNumber_L7 d hJ hC)
theorem k_X7_splitNumber {N : Nat} {xs : Nat → Int32} (d : Nat) {s : mG} {τ : (mG)} (hJ : F_X7_splitNumber s = some τ) : Rn N xs (d + 3) me86 0 [some (.ref 55), none, none] [] (SH, s) (none, (SH, τ)) := k_X7_splitNumber_r d hJ rfl
/-! IsHeIn$Reader.splitTape()V -/
theorem srt82 : m_srt mc82 = true := by decide +kernel
def C_X7_splitTape_14 (N : Nat) (xs : Nat → Int32) (d : Nat) (r : Option Value × mH) (C : (mG) → Prop) : ((Int32 × mG) ⊕ (mG)) → Prop
  | .inl v => Rn N xs (d + 7) me82 14 [some (.ref 55), some (.int v.1), none] [] (SH, v.2) r
  | .inr a => C a
def F_X7_splitTape_94 (s : mG) : Option (mG) :=
  b1 (F_X7_addToken (ci (-1)) (ci 0) (s.1 55 9) s) fun s6 =>
  some s6
set_option maxRecDepth 4000 in
theorem k_X7_splitTape_94 {N : Nat} {xs : Nat → Int32} (d : Nat) {r : Option Value × mH} {s : mG} {τ : (mG)} (hJ : F_X7_splitTape_94 s = some τ) (hC : (fun τ => r = (none, (SH, τ))) τ) : Rn N xs (d + 7) me82 94 [some (.ref 55), none, none] [] (SH, s) r := by
  unfold F_X7_splitTape_94 at hJ
  refine Rn_sq srt82 46 5 (pc' := 101) (ls' := [some (.ref 55), none, none]) (st' := [(.int (s.1 55 9)), (.int (ci 0)), (.int (ci (-1))), (.ref 55)]) (h1 := (SH, s)) rfl ?_
  obtain ⟨s6, h5, hJ⟩ := m_b1 hJ
  refine Rn_call srt82 51 rfl rfl rfl ⟨Nat.le_of_ble_eq_true rfl, Nat.le_of_ble_eq_true rfl, rfl, Nat.le_of_ble_eq_true rfl⟩ (k_X7_addToken (d + 4) h5) (show Rn N xs (d + 7) me82 104 [some (.ref 55), none, none] [] (SH, s6) r from ?_)
  rw [← Option.some.inj hJ] at hC
  have hC : r = (none, (SH, s6)) := hC
  subst hC
  exact Rn_ret srt82 52 rfl rfl rfl
def F_X7_splitTape_88 (x1 : Int32) (s : mG) : Option ((Int32 × mG) ⊕ (mG)) :=
  some (Sum.inl ((x1 + ci 1), s))
set_option maxRecDepth 4000 in
theorem k_X7_splitTape_88 {N : Nat} {xs : Nat → Int32} (d : Nat) {r : Option Value × mH} {s : mG} {x1 : Int32} {τ : ((Int32 × mG) ⊕ (mG))} (hJ : F_X7_splitTape_88 x1 s = some τ) (hC : (C_X7_splitTape_14 N xs d r (fun τ => r = (none, (SH, τ)))) τ) : Rn N xs (d + 7) me82 88 [some (.ref 55), some (.int x1), none] [] (SH, s) r := by
  unfold F_X7_splitTape_88 at hJ
  refine Rn_sq srt82 44 2 (pc' := 14) (ls' := [some (.ref 55), some (.int (x1 + ci 1)), none]) (st' := []) (h1 := (SH, s)) rfl ?_
  rw [← Option.some.inj hJ] at hC
  exact hC
def F_X7_splitTape_B14 (x1 : Int32) (s : mG) : Option ((Int32 × mG) ⊕ (mG)) :=
  if (c16 400) ≤ x1 then
    b1 (F_X7_splitTape_94 s) fun τ => some (Sum.inr τ)
  else
    b2 (F_X7_skipBlanks s) fun v9 s8 =>
    if v9 = 0 then
      b1 (F_X7_splitTape_94 s8) fun τ => some (Sum.inr τ)
    else
      b1 (F_X11_cell 64 s8 (s8.1 55 13)) fun v12 =>
      b1 (F_X7_isLetter s8 v12) fun v14 =>
      if v14 = 0 then
        b1 (F_X7_isDigit s8 v12) fun v17 =>
        if v17 = 0 then
          b1 (F_X7_addToken v12 (ci 0) (s8.1 55 13) s8) fun s20 =>
          let s21 : mG := (mu s20.1 55 13 ((s20.1 55 13) + (ci 1)), s20.2)
          F_X7_splitTape_88 x1 s21
        else
          b1 (F_X7_splitNumber s8) fun s23 =>
          F_X7_splitTape_88 x1 s23
      else
        b1 (F_X7_splitWord s8) fun s25 =>
        F_X7_splitTape_88 x1 s25
set_option maxRecDepth 4000 in
theorem k_X7_splitTape_B14 {N : Nat} {xs : Nat → Int32} (d : Nat) {r : Option Value × mH} {s : mG} {x1 : Int32} {τ : ((Int32 × mG) ⊕ (mG))} (hJ : F_X7_splitTape_B14 x1 s = some τ) (hC : (C_X7_splitTape_14 N xs d r (fun τ => r = (none, (SH, τ)))) τ) : Rn N xs (d + 7) me82 14 [some (.ref 55), some (.int x1), none] [] (SH, s) r := by
  unfold F_X7_splitTape_B14 at hJ
  refine Rn_sq srt82 8 3 (pc' := (if (c16 400) ≤ x1 then 94 else 21)) (ls' := [some (.ref 55), some (.int x1), none]) (st' := []) (h1 := (SH, s)) rfl (Rn_if (fun h4 => ?_) (fun h4 => ?_))
  · replace hJ := m_ifp h4 hJ
    obtain ⟨τ1, hJ1, hJ⟩ := m_b1 hJ
    rw [← Option.some.inj hJ] at hC
    exact Rn_weaken (a := [some (.ref 55), none, none]) (b := [some (.ref 55), some (.int x1), none]) (And.intro rfl trivial) rfl (k_X7_splitTape_94 d hJ1 hC)
  · replace hJ := m_ifn h4 hJ
    refine Rn_sq srt82 11 1 (pc' := 22) (ls' := [some (.ref 55), some (.int x1), none]) (st' := [(.ref 55)]) (h1 := (SH, s)) rfl ?_
    obtain ⟨v9, s8, h7, hJ⟩ := m_b2 hJ
    refine Rn_call srt82 12 rfl rfl rfl ⟨Nat.le_of_ble_eq_true rfl, Nat.le_of_ble_eq_true rfl, rfl, Nat.le_of_ble_eq_true rfl⟩ (k_X7_skipBlanks (d + 5) h7) (show Rn N xs (d + 7) me82 25 [some (.ref 55), some (.int x1), none] [(.int v9)] (SH, s8) r from ?_)
    refine Rn_sq srt82 13 1 (pc' := (if v9 = 0 then 94 else 28)) (ls' := [some (.ref 55), some (.int x1), none]) (st' := []) (h1 := (SH, s8)) rfl (Rn_if (fun h10 => ?_) (fun h10 => ?_))
    · replace hJ := m_ifp h10 hJ
      obtain ⟨τ1, hJ1, hJ⟩ := m_b1 hJ
      rw [← Option.some.inj hJ] at hC
      exact Rn_weaken (a := [some (.ref 55), none, none]) (b := [some (.ref 55), some (.int x1), none]) (And.intro rfl trivial) rfl (k_X7_splitTape_94 d hJ1 hC)
    · replace hJ := m_ifn h10 hJ
      refine Rn_sq srt82 14 4 (pc' := 36) (ls' := [some (.ref 55), some (.int x1), none]) (st' := [(.int (s8.1 55 13)), (.ref 64)]) (h1 := (SH, s8)) rfl ?_
      obtain ⟨v12, h11, hJ⟩ := m_b1 hJ
      refine Rn_call srt82 18 rfl rfl rfl ⟨Nat.le_of_ble_eq_true rfl, Nat.le_of_ble_eq_true rfl, rfl, Nat.le_of_ble_eq_true rfl⟩ (k_X11_cell 64 (d + 6) h11) (show Rn N xs (d + 7) me82 39 [some (.ref 55), some (.int x1), none] [(.int v12)] (SH, s8) r from ?_)
      refine Rn_sq srt82 19 2 (pc' := 41) (ls' := [some (.ref 55), some (.int x1), some (.int v12)]) (st' := [(.int v12)]) (h1 := (SH, s8)) rfl ?_
      obtain ⟨v14, h13, hJ⟩ := m_b1 hJ
      refine Rn_call srt82 21 rfl rfl rfl ⟨Nat.le_of_ble_eq_true rfl, Nat.le_of_ble_eq_true rfl, rfl, Nat.le_of_ble_eq_true rfl⟩ (k_X7_isLetter (d + 6) h13) (show Rn N xs (d + 7) me82 44 [some (.ref 55), some (.int x1), some (.int v12)] [(.int v14)] (SH, s8) r from ?_)
      refine Rn_sq srt82 22 1 (pc' := (if v14 = 0 then 54 else 47)) (ls' := [some (.ref 55), some (.int x1), some (.int v12)]) (st' := []) (h1 := (SH, s8)) rfl (Rn_if (fun h15 => ?_) (fun h15 => ?_))
      · replace hJ := m_ifp h15 hJ
        refine Rn_sq srt82 26 1 (pc' := 55) (ls' := [some (.ref 55), some (.int x1), some (.int v12)]) (st' := [(.int v12)]) (h1 := (SH, s8)) rfl ?_
        obtain ⟨v17, h16, hJ⟩ := m_b1 hJ
        refine Rn_call srt82 27 rfl rfl rfl ⟨Nat.le_of_ble_eq_true rfl, Nat.le_of_ble_eq_true rfl, rfl, Nat.le_of_ble_eq_true rfl⟩ (k_X7_isDigit (d + 6) h16) (show Rn N xs (d + 7) me82 58 [some (.ref 55), some (.int x1), some (.int v12)] [(.int v17)] (SH, s8) r from ?_)
        refine Rn_sq srt82 28 1 (pc' := (if v17 = 0 then 68 else 61)) (ls' := [some (.ref 55), some (.int x1), some (.int v12)]) (st' := []) (h1 := (SH, s8)) rfl (Rn_if (fun h18 => ?_) (fun h18 => ?_))
        · replace hJ := m_ifp h18 hJ
          refine Rn_sq srt82 32 5 (pc' := 75) (ls' := [some (.ref 55), some (.int x1), some (.int v12)]) (st' := [(.int (s8.1 55 13)), (.int (ci 0)), (.int v12), (.ref 55)]) (h1 := (SH, s8)) rfl ?_
          obtain ⟨s20, h19, hJ⟩ := m_b1 hJ
          refine Rn_call srt82 37 rfl rfl rfl ⟨Nat.le_of_ble_eq_true rfl, Nat.le_of_ble_eq_true rfl, rfl, Nat.le_of_ble_eq_true rfl⟩ (k_X7_addToken (d + 4) h19) (show Rn N xs (d + 7) me82 78 [some (.ref 55), some (.int x1), some (.int v12)] [] (SH, s20) r from ?_)
          extract_lets +onlyGivenNames s21 at hJ
          refine Rn_sq srt82 38 6 (pc' := 88) (ls' := [some (.ref 55), some (.int x1), some (.int v12)]) (st' := []) (h1 := (SH, s21)) rfl ?_
          exact Rn_weaken (a := [some (.ref 55), some (.int x1), none]) (b := [some (.ref 55), some (.int x1), some (.int v12)]) (And.intro rfl (And.intro rfl trivial)) rfl (k_X7_splitTape_88 d hJ hC)
        · replace hJ := m_ifn h18 hJ
          refine Rn_sq srt82 29 1 (pc' := 62) (ls' := [some (.ref 55), some (.int x1), some (.int v12)]) (st' := [(.ref 55)]) (h1 := (SH, s8)) rfl ?_
          obtain ⟨s23, h22, hJ⟩ := m_b1 hJ
          refine Rn_call srt82 30 rfl rfl rfl ⟨Nat.le_of_ble_eq_true rfl, Nat.le_of_ble_eq_true rfl, rfl, Nat.le_of_ble_eq_true rfl⟩ (k_X7_splitNumber (d + 3) h22) (show Rn N xs (d + 7) me82 65 [some (.ref 55), some (.int x1), some (.int v12)] [] (SH, s23) r from ?_)
          refine Rn_sq srt82 31 1 (pc' := 88) (ls' := [some (.ref 55), some (.int x1), some (.int v12)]) (st' := []) (h1 := (SH, s23)) rfl ?_
          exact Rn_weaken (a := [some (.ref 55), some (.int x1), none]) (b := [some (.ref 55), some (.int x1), some (.int v12)]) (And.intro rfl (And.intro rfl trivial)) rfl (k_X7_splitTape_88 d hJ hC)
      · replace hJ := m_ifn h15 hJ
        refine Rn_sq srt82 23 1 (pc' := 48) (ls' := [some (.ref 55), some (.int x1), some (.int v12)]) (st' := [(.ref 55)]) (h1 := (SH, s8)) rfl ?_
        obtain ⟨s25, h24, hJ⟩ := m_b1 hJ
        refine Rn_call srt82 24 rfl rfl rfl ⟨Nat.le_of_ble_eq_true rfl, Nat.le_of_ble_eq_true rfl, rfl, Nat.le_of_ble_eq_true rfl⟩ (k_X7_splitWord (d) h24) (show Rn N xs (d + 7) me82 51 [some (.ref 55), some (.int x1), some (.int v12)] [] (SH, s25) r from ?_)
        refine Rn_sq srt82 25 1 (pc' := 88) (ls' := [some (.ref 55), some (.int x1), some (.int v12)]) (st' := []) (h1 := (SH, s25)) rfl ?_
        exact Rn_weaken (a := [some (.ref 55), some (.int x1), none]) (b := [some (.ref 55), some (.int x1), some (.int v12)]) (And.intro rfl (And.intro rfl trivial)) rfl (k_X7_splitTape_88 d hJ hC)
def F_X7_splitTape_L14 (x1 : Int32) (s : mG) : Option (mG) := whl (fun (v : (Int32 × mG)) => F_X7_splitTape_B14 v.1 v.2) (x1, s)
theorem k_X7_splitTape_L14 {N : Nat} {xs : Nat → Int32} (d : Nat) {r : Option Value × mH} {s : mG} {x1 : Int32} {τ : (mG)} (hJ : F_X7_splitTape_L14 x1 s = some τ) (hC : (fun τ => r = (none, (SH, τ))) τ) : Rn N xs (d + 7) me82 14 [some (.ref 55), some (.int x1), none] [] (SH, s) r :=
  whl_link (P := fun (v : (Int32 × mG)) => Rn N xs (d + 7) me82 14 [some (.ref 55), some (.int v.1), none] [] (SH, v.2) r) (C := (C_X7_splitTape_14 N xs d r (fun τ => r = (none, (SH, τ))))) (fun v τ h1 h2 => k_X7_splitTape_B14 d h1 h2) (fun _ h => h) (fun _ h => h) _ _ hJ hC
def F_X7_splitTape (s : mG) : Option (mG) :=
  b1 (F_X10_clear 65 s) fun s2 =>
  let s3 : mG := (mu s2.1 55 13 (ci 0), s2.2)
  F_X7_splitTape_L14 (ci 0) s3
set_option maxRecDepth 4000 in
theorem k_X7_splitTape_r {N : Nat} {xs : Nat → Int32} (d : Nat) {r : Option Value × mH} {s : mG} {τ : (mG)} (hJ : F_X7_splitTape s = some τ) (hC : (fun τ => r = (none, (SH, τ))) τ) : Rn N xs (d + 7) me82 0 [some (.ref 55), none, none] [] (SH, s) r := by
  unfold F_X7_splitTape at hJ
  refine Rn_sq srt82 0 2 (pc' := 4) (ls' := [some (.ref 55), none, none]) (st' := [(.ref 65)]) (h1 := (SH, s)) rfl ?_
  obtain ⟨s2, h1, hJ⟩ := m_b1 hJ
  refine Rn_call srt82 2 rfl rfl rfl ⟨Nat.le_of_ble_eq_true rfl, Nat.le_of_ble_eq_true rfl, rfl, Nat.le_of_ble_eq_true rfl⟩ (k_X10_clear 65 (d + 6) isT_65 h1) (show Rn N xs (d + 7) me82 7 [some (.ref 55), none, none] [] (SH, s2) r from ?_)
  extract_lets +onlyGivenNames s3 at hJ
  refine Rn_sq srt82 3 5 (pc' := 14) (ls' := [some (.ref 55), some (.int (ci 0)), none]) (st' := []) (h1 := (SH, s3)) rfl ?_
  exact (k_X7_splitTape_L14 d hJ hC)
theorem k_X7_splitTape {N : Nat} {xs : Nat → Int32} (d : Nat) {s : mG} {τ : (mG)} (hJ : F_X7_splitTape s = some τ) : Rn N xs (d + 7) me82 0 [some (.ref 55), none, none] [] (SH, s) (none, (SH, τ)) := k_X7_splitTape_r d hJ rfl
/-! IsHeIn$Reader.refuse(I)Z -/
theorem srt79 : m_srt mc79 = true := by decide +kernel
def F_X7_refuse (a1 : Int32) (s : mG) : Option (Int32 × mG) :=
  let s1 : mG := (mu s.1 55 10 a1, s.2)
  let s2 : mG := (mu s1.1 55 11 (s1.1 55 16), s1.2)
  some ((ci 0), s2)
set_option maxRecDepth 4000 in
theorem k_X7_refuse_r {N : Nat} {xs : Nat → Int32} (d : Nat) {r : Option Value × mH} {s : mG} {a1 : Int32} {τ : (Int32 × mG)} (hJ : F_X7_refuse a1 s = some τ) (hC : (fun τ => r = (some (.int τ.1), (SH, τ.2))) τ) : Rn N xs (d + 0) me79 0 [some (.ref 55), some (.int a1)] [] (SH, s) r := by
  unfold F_X7_refuse at hJ
  extract_lets +onlyGivenNames s1 at hJ
  extract_lets +onlyGivenNames s2 at hJ
  refine Rn_sq srt79 0 8 (pc' := 14) (ls' := [some (.ref 55), some (.int a1)]) (st' := [(.int (ci 0))]) (h1 := (SH, s2)) rfl ?_
  rw [← Option.some.inj hJ] at hC
  have hC : r = (some (.int (ci 0)), (SH, s2)) := hC
  subst hC
  exact Rn_ret srt79 8 rfl rfl (m_ret_b rfl (by decide))
theorem k_X7_refuse {N : Nat} {xs : Nat → Int32} (d : Nat) {s : mG} {a1 : Int32} {τ : (Int32 × mG)} (hJ : F_X7_refuse a1 s = some τ) : Rn N xs (d + 0) me79 0 [some (.ref 55), some (.int a1)] [] (SH, s) (some (.int τ.1), (SH, τ.2)) := k_X7_refuse_r d hJ rfl
/-! IsHeIn$Reader.pass(I)Z -/
theorem srt81 : m_srt mc81 = true := by decide +kernel
def F_X7_pass (a1 : Int32) (s : mG) : Option (Int32 × mG) :=
  if (s.1 55 14) = a1 then
    b1 (F_X7_stepOn s) fun s3 =>
    some ((ci 1), s3)
  else
    b2 (F_X7_refuse (ci 1) s) fun v6 s5 =>
    if v6 = 0 ∨ v6 = 1 then
      some (v6, s5)
    else none
set_option maxRecDepth 4000 in
theorem k_X7_pass_r {N : Nat} {xs : Nat → Int32} (d : Nat) {r : Option Value × mH} {s : mG} {a1 : Int32} {τ : (Int32 × mG)} (hJ : F_X7_pass a1 s = some τ) (hC : (fun τ => r = (some (.int τ.1), (SH, τ.2))) τ) : Rn N xs (d + 2) me81 0 [some (.ref 55), some (.int a1)] [] (SH, s) r := by
  unfold F_X7_pass at hJ
  refine Rn_sq srt81 0 4 (pc' := (if (s.1 55 14) = a1 then 14 else 8)) (ls' := [some (.ref 55), some (.int a1)]) (st' := []) (h1 := (SH, s)) rfl (Rn_if (fun h1 => ?_) (fun h1 => ?_))
  · replace hJ := m_ifp h1 hJ
    refine Rn_sq srt81 8 1 (pc' := 15) (ls' := [some (.ref 55), some (.int a1)]) (st' := [(.ref 55)]) (h1 := (SH, s)) rfl ?_
    obtain ⟨s3, h2, hJ⟩ := m_b1 hJ
    refine Rn_call srt81 9 rfl rfl rfl ⟨Nat.le_of_ble_eq_true rfl, Nat.le_of_ble_eq_true rfl, rfl, Nat.le_of_ble_eq_true rfl⟩ (k_X7_stepOn (d) h2) (show Rn N xs (d + 2) me81 18 [some (.ref 55), some (.int a1)] [] (SH, s3) r from ?_)
    refine Rn_sq srt81 10 1 (pc' := 19) (ls' := [some (.ref 55), some (.int a1)]) (st' := [(.int (ci 1))]) (h1 := (SH, s3)) rfl ?_
    rw [← Option.some.inj hJ] at hC
    have hC : r = (some (.int (ci 1)), (SH, s3)) := hC
    subst hC
    exact Rn_ret srt81 11 rfl rfl (m_ret_b rfl (by decide))
  · replace hJ := m_ifn h1 hJ
    refine Rn_sq srt81 4 2 (pc' := 10) (ls' := [some (.ref 55), some (.int a1)]) (st' := [(.int (ci 1)), (.ref 55)]) (h1 := (SH, s)) rfl ?_
    obtain ⟨v6, s5, h4, hJ⟩ := m_b2 hJ
    refine Rn_call srt81 6 rfl rfl rfl ⟨Nat.le_of_ble_eq_true rfl, Nat.le_of_ble_eq_true rfl, rfl, Nat.le_of_ble_eq_true rfl⟩ (k_X7_refuse (d + 1) h4) (show Rn N xs (d + 2) me81 13 [some (.ref 55), some (.int a1)] [(.int v6)] (SH, s5) r from ?_)
    obtain ⟨h7, hJ⟩ := m_gp hJ
    rw [← Option.some.inj hJ] at hC
    have hC : r = (some (.int v6), (SH, s5)) := hC
    subst hC
    exact Rn_ret srt81 7 rfl rfl (m_ret_b rfl h7)
theorem k_X7_pass {N : Nat} {xs : Nat → Int32} (d : Nat) {s : mG} {a1 : Int32} {τ : (Int32 × mG)} (hJ : F_X7_pass a1 s = some τ) : Rn N xs (d + 2) me81 0 [some (.ref 55), some (.int a1)] [] (SH, s) (some (.int τ.1), (SH, τ.2)) := k_X7_pass_r d hJ rfl
/-! IsHeIn$Reader.readHead(ILIsHeIn$Table;)Z -/
theorem srt94 : m_srt mc94 = true := by decide +kernel
def F_X7_readHead_30 (a2 : Nat) (s : mG) : Option (Int32 × mG) :=
  some ((ci 1), s)
set_option maxRecDepth 4000 in
theorem k_X7_readHead_30 {N : Nat} {xs : Nat → Int32} (a2 : Nat) (d : Nat) (h_a2 : isT a2) {r : Option Value × mH} {s : mG} {τ : (Int32 × mG)} (hJ : F_X7_readHead_30 a2 s = some τ) (hC : (fun τ => r = (some (.int τ.1), (SH, τ.2))) τ) : Rn N xs (d + 2) me94 30 [none, none, none] [] (SH, s) r := by
  unfold F_X7_readHead_30 at hJ
  refine Rn_sq srt94 16 2 (pc' := 35) (ls' := [none, none, none]) (st' := [(.int (ci 1))]) (h1 := (SH, s)) rfl ?_
  rw [← Option.some.inj hJ] at hC
  have hC : r = (some (.int (ci 1)), (SH, s)) := hC
  subst hC
  exact Rn_ret srt94 19 rfl rfl (m_ret_b rfl (by decide))
def F_X7_readHead (a2 : Nat) (a1 : Int32) (s : mG) : Option (Int32 × mG) :=
  if (s.1 55 14) = a1 then
    b2 (F_X10_add a2 s) fun v4 s3 =>
    if v4 = (ci (-1)) then
      b2 (F_X7_refuse (ci 3) s3) fun v8 s7 =>
      if v8 = 0 then
        some ((ci 0), s7)
      else
        F_X7_readHead_30 a2 s7
    else
      F_X7_readHead_30 a2 s3
  else
    b2 (F_X7_refuse (ci 1) s) fun v12 s11 =>
    if v12 = 0 ∨ v12 = 1 then
      some (v12, s11)
    else none
set_option maxRecDepth 4000 in
theorem k_X7_readHead_r {N : Nat} {xs : Nat → Int32} (a2 : Nat) (d : Nat) (h_a2 : isT a2) {r : Option Value × mH} {s : mG} {a1 : Int32} {τ : (Int32 × mG)} (hJ : F_X7_readHead a2 a1 s = some τ) (hC : (fun τ => r = (some (.int τ.1), (SH, τ.2))) τ) : Rn N xs (d + 2) me94 0 [some (.ref 55), some (.int a1), some (.ref a2)] [] (SH, s) r := by
  unfold F_X7_readHead at hJ
  refine Rn_sq srt94 0 4 (pc' := (if (s.1 55 14) = a1 then 14 else 8)) (ls' := [some (.ref 55), some (.int a1), some (.ref a2)]) (st' := []) (h1 := (SH, s)) rfl (Rn_if (fun h1 => ?_) (fun h1 => ?_))
  · replace hJ := m_ifp h1 hJ
    refine Rn_sq srt94 8 1 (pc' := 15) (ls' := [some (.ref 55), some (.int a1), some (.ref a2)]) (st' := [(.ref a2)]) (h1 := (SH, s)) rfl ?_
    obtain ⟨v4, s3, h2, hJ⟩ := m_b2 hJ
    refine Rn_call srt94 9 rfl rfl rfl ⟨Nat.le_of_ble_eq_true rfl, Nat.le_of_ble_eq_true rfl, (recv_T h_a2), Nat.le_of_ble_eq_true rfl⟩ (k_X10_add a2 (d) h_a2 h2) (show Rn N xs (d + 2) me94 18 [some (.ref 55), some (.int a1), some (.ref a2)] [(.int v4)] (SH, s3) r from ?_)
    refine Rn_sq srt94 10 2 (pc' := (if v4 = (ci (-1)) then 22 else 30)) (ls' := [some (.ref 55), some (.int a1), some (.ref a2)]) (st' := []) (h1 := (SH, s3)) rfl (Rn_if (fun h5 => ?_) (fun h5 => ?_))
    · replace hJ := m_ifp h5 hJ
      refine Rn_sq srt94 12 2 (pc' := 24) (ls' := [some (.ref 55), some (.int a1), some (.ref a2)]) (st' := [(.int (ci 3)), (.ref 55)]) (h1 := (SH, s3)) rfl ?_
      obtain ⟨v8, s7, h6, hJ⟩ := m_b2 hJ
      refine Rn_call srt94 14 rfl rfl rfl ⟨Nat.le_of_ble_eq_true rfl, Nat.le_of_ble_eq_true rfl, rfl, Nat.le_of_ble_eq_true rfl⟩ (k_X7_refuse (d + 1) h6) (show Rn N xs (d + 2) me94 27 [some (.ref 55), some (.int a1), some (.ref a2)] [(.int v8)] (SH, s7) r from ?_)
      refine Rn_sq srt94 15 1 (pc' := (if v8 = 0 then 34 else 30)) (ls' := [some (.ref 55), some (.int a1), some (.ref a2)]) (st' := []) (h1 := (SH, s7)) rfl (Rn_if (fun h9 => ?_) (fun h9 => ?_))
      · replace hJ := m_ifp h9 hJ
        refine Rn_sq srt94 18 1 (pc' := 35) (ls' := [some (.ref 55), some (.int a1), some (.ref a2)]) (st' := [(.int (ci 0))]) (h1 := (SH, s7)) rfl ?_
        rw [← Option.some.inj hJ] at hC
        have hC : r = (some (.int (ci 0)), (SH, s7)) := hC
        subst hC
        exact Rn_ret srt94 19 rfl rfl (m_ret_b rfl (by decide))
      · replace hJ := m_ifn h9 hJ
        exact Rn_weaken (a := [none, none, none]) (b := [some (.ref 55), some (.int a1), some (.ref a2)]) trivial rfl (k_X7_readHead_30 a2 d h_a2 hJ hC)
    · replace hJ := m_ifn h5 hJ
      exact Rn_weaken (a := [none, none, none]) (b := [some (.ref 55), some (.int a1), some (.ref a2)]) trivial rfl (k_X7_readHead_30 a2 d h_a2 hJ hC)
  · replace hJ := m_ifn h1 hJ
    refine Rn_sq srt94 4 2 (pc' := 10) (ls' := [some (.ref 55), some (.int a1), some (.ref a2)]) (st' := [(.int (ci 1)), (.ref 55)]) (h1 := (SH, s)) rfl ?_
    obtain ⟨v12, s11, h10, hJ⟩ := m_b2 hJ
    refine Rn_call srt94 6 rfl rfl rfl ⟨Nat.le_of_ble_eq_true rfl, Nat.le_of_ble_eq_true rfl, rfl, Nat.le_of_ble_eq_true rfl⟩ (k_X7_refuse (d + 1) h10) (show Rn N xs (d + 2) me94 13 [some (.ref 55), some (.int a1), some (.ref a2)] [(.int v12)] (SH, s11) r from ?_)
    obtain ⟨h13, hJ⟩ := m_gp hJ
    rw [← Option.some.inj hJ] at hC
    have hC : r = (some (.int v12), (SH, s11)) := hC
    subst hC
    exact Rn_ret srt94 7 rfl rfl (m_ret_b rfl h13)
theorem k_X7_readHead {N : Nat} {xs : Nat → Int32} (a2 : Nat) (d : Nat) (h_a2 : isT a2) {s : mG} {a1 : Int32} {τ : (Int32 × mG)} (hJ : F_X7_readHead a2 a1 s = some τ) : Rn N xs (d + 2) me94 0 [some (.ref 55), some (.int a1), some (.ref a2)] [] (SH, s) (some (.int τ.1), (SH, τ.2)) := k_X7_readHead_r a2 d h_a2 hJ rfl
/-! IsHeIn.isWithin(III)Z -/
theorem srt188 : m_srt mc188 = true := by decide +kernel
def F_X11_isWithin_14 (s : mG) : Option (Int32) :=
  some (ci 0)
set_option maxRecDepth 4000 in
theorem k_X11_isWithin_14 {N : Nat} {xs : Nat → Int32} (d : Nat) {r : Option Value × mH} {s : mG} {τ : (Int32)} (hJ : F_X11_isWithin_14 s = some τ) (hC : (fun τ => r = (some (.int τ), (SH, s))) τ) : Rn N xs (d + 0) me188 14 [none, none, none] [] (SH, s) r := by
  unfold F_X11_isWithin_14 at hJ
  refine Rn_sq srt188 8 1 (pc' := 15) (ls' := [none, none, none]) (st' := [(.int (ci 0))]) (h1 := (SH, s)) rfl ?_
  rw [← Option.some.inj hJ] at hC
  have hC : r = (some (.int (ci 0)), (SH, s)) := hC
  subst hC
  exact Rn_ret srt188 9 rfl rfl (m_ret_b rfl (by decide))
def F_X11_isWithin (s : mG) (a1 : Int32) (a2 : Int32) (a3 : Int32) : Option (Int32) :=
  if a1 < a2 then
    F_X11_isWithin_14 s
  else
    if a3 < a1 then
      F_X11_isWithin_14 s
    else
      some (ci 1)
set_option maxRecDepth 4000 in
theorem k_X11_isWithin_r {N : Nat} {xs : Nat → Int32} (d : Nat) {r : Option Value × mH} {s : mG} {a1 : Int32} {a2 : Int32} {a3 : Int32} {τ : (Int32)} (hJ : F_X11_isWithin s a1 a2 a3 = some τ) (hC : (fun τ => r = (some (.int τ), (SH, s))) τ) : Rn N xs (d + 0) me188 0 [some (.int a1), some (.int a2), some (.int a3)] [] (SH, s) r := by
  unfold F_X11_isWithin at hJ
  refine Rn_sq srt188 0 3 (pc' := (if a1 < a2 then 14 else 5)) (ls' := [some (.int a1), some (.int a2), some (.int a3)]) (st' := []) (h1 := (SH, s)) rfl (Rn_if (fun h1 => ?_) (fun h1 => ?_))
  · replace hJ := m_ifp h1 hJ
    exact Rn_weaken (a := [none, none, none]) (b := [some (.int a1), some (.int a2), some (.int a3)]) trivial rfl (k_X11_isWithin_14 d hJ hC)
  · replace hJ := m_ifn h1 hJ
    refine Rn_sq srt188 3 3 (pc' := (if a3 < a1 then 14 else 10)) (ls' := [some (.int a1), some (.int a2), some (.int a3)]) (st' := []) (h1 := (SH, s)) rfl (Rn_if (fun h2 => ?_) (fun h2 => ?_))
    · replace hJ := m_ifp h2 hJ
      exact Rn_weaken (a := [none, none, none]) (b := [some (.int a1), some (.int a2), some (.int a3)]) trivial rfl (k_X11_isWithin_14 d hJ hC)
    · replace hJ := m_ifn h2 hJ
      refine Rn_sq srt188 6 2 (pc' := 15) (ls' := [some (.int a1), some (.int a2), some (.int a3)]) (st' := [(.int (ci 1))]) (h1 := (SH, s)) rfl ?_
      rw [← Option.some.inj hJ] at hC
      have hC : r = (some (.int (ci 1)), (SH, s)) := hC
      subst hC
      exact Rn_ret srt188 9 rfl rfl (m_ret_b rfl (by decide))
theorem k_X11_isWithin {N : Nat} {xs : Nat → Int32} (d : Nat) {s : mG} {a1 : Int32} {a2 : Int32} {a3 : Int32} {τ : (Int32)} (hJ : F_X11_isWithin s a1 a2 a3 = some τ) : Rn N xs (d + 0) me188 0 [some (.int a1), some (.int a2), some (.int a3)] [] (SH, s) (some (.int τ), (SH, s)) := k_X11_isWithin_r d hJ rfl
/-! IsHeIn$Reader.readNamed(IIILIsHeIn$Table;I)Z -/
theorem srt95 : m_srt mc95 = true := by decide +kernel
def F_X7_readNamed (a4 : Nat) (a1 : Int32) (a2 : Int32) (a3 : Int32) (a5 : Int32) (s : mG) : Option (Int32 × mG) :=
  b2 (F_X7_pass a1 s) fun v3 s2 =>
  if v3 = 0 then
    some ((ci 0), s2)
  else
    if (s2.1 55 14) = (c8 (-2)) then
      b1 (F_X11_isWithin s2 (s2.1 55 15) a2 a3) fun v7 =>
      if v7 = 0 then
        b2 (F_X7_refuse (ci 2) s2) fun v11 s10 =>
        if v11 = 0 ∨ v11 = 1 then
          some (v11, s10)
        else none
      else
        b1 (F_X10_put a4 ((s2.1 a4 3) - (ci 1)) a5 (s2.1 55 15) s2) fun s14 =>
        b1 (F_X7_stepOn s14) fun s16 =>
        some ((ci 1), s16)
    else
      b2 (F_X7_refuse (ci 1) s2) fun v19 s18 =>
      if v19 = 0 ∨ v19 = 1 then
        some (v19, s18)
      else none
set_option maxRecDepth 4000 in
theorem k_X7_readNamed_r {N : Nat} {xs : Nat → Int32} (a4 : Nat) (d : Nat) (h_a4 : isT a4) {r : Option Value × mH} {s : mG} {a1 : Int32} {a2 : Int32} {a3 : Int32} {a5 : Int32} {τ : (Int32 × mG)} (hJ : F_X7_readNamed a4 a1 a2 a3 a5 s = some τ) (hC : (fun τ => r = (some (.int τ.1), (SH, τ.2))) τ) : Rn N xs (d + 3) me95 0 [some (.ref 55), some (.int a1), some (.int a2), some (.int a3), some (.ref a4), some (.int a5)] [] (SH, s) r := by
  unfold F_X7_readNamed at hJ
  refine Rn_sq srt95 0 2 (pc' := 2) (ls' := [some (.ref 55), some (.int a1), some (.int a2), some (.int a3), some (.ref a4), some (.int a5)]) (st' := [(.int a1), (.ref 55)]) (h1 := (SH, s)) rfl ?_
  obtain ⟨v3, s2, h1, hJ⟩ := m_b2 hJ
  refine Rn_call srt95 2 rfl rfl rfl ⟨Nat.le_of_ble_eq_true rfl, Nat.le_of_ble_eq_true rfl, rfl, Nat.le_of_ble_eq_true rfl⟩ (k_X7_pass (d) h1) (show Rn N xs (d + 3) me95 5 [some (.ref 55), some (.int a1), some (.int a2), some (.int a3), some (.ref a4), some (.int a5)] [(.int v3)] (SH, s2) r from ?_)
  refine Rn_sq srt95 3 1 (pc' := (if v3 = 0 then 8 else 10)) (ls' := [some (.ref 55), some (.int a1), some (.int a2), some (.int a3), some (.ref a4), some (.int a5)]) (st' := []) (h1 := (SH, s2)) rfl (Rn_if (fun h4 => ?_) (fun h4 => ?_))
  · replace hJ := m_ifp h4 hJ
    refine Rn_sq srt95 4 1 (pc' := 9) (ls' := [some (.ref 55), some (.int a1), some (.int a2), some (.int a3), some (.ref a4), some (.int a5)]) (st' := [(.int (ci 0))]) (h1 := (SH, s2)) rfl ?_
    rw [← Option.some.inj hJ] at hC
    have hC : r = (some (.int (ci 0)), (SH, s2)) := hC
    subst hC
    exact Rn_ret srt95 5 rfl rfl (m_ret_b rfl (by decide))
  · replace hJ := m_ifn h4 hJ
    refine Rn_sq srt95 6 4 (pc' := (if (s2.1 55 14) = (c8 (-2)) then 25 else 19)) (ls' := [some (.ref 55), some (.int a1), some (.int a2), some (.int a3), some (.ref a4), some (.int a5)]) (st' := []) (h1 := (SH, s2)) rfl (Rn_if (fun h5 => ?_) (fun h5 => ?_))
    · replace hJ := m_ifp h5 hJ
      refine Rn_sq srt95 14 4 (pc' := 31) (ls' := [some (.ref 55), some (.int a1), some (.int a2), some (.int a3), some (.ref a4), some (.int a5)]) (st' := [(.int a3), (.int a2), (.int (s2.1 55 15))]) (h1 := (SH, s2)) rfl ?_
      obtain ⟨v7, h6, hJ⟩ := m_b1 hJ
      refine Rn_call srt95 18 rfl rfl rfl ⟨Nat.le_of_ble_eq_true rfl, Nat.le_of_ble_eq_true rfl, rfl, Nat.le_of_ble_eq_true rfl⟩ (k_X11_isWithin (d + 2) h6) (show Rn N xs (d + 3) me95 34 [some (.ref 55), some (.int a1), some (.int a2), some (.int a3), some (.ref a4), some (.int a5)] [(.int v7)] (SH, s2) r from ?_)
      refine Rn_sq srt95 19 1 (pc' := (if v7 = 0 then 37 else 43)) (ls' := [some (.ref 55), some (.int a1), some (.int a2), some (.int a3), some (.ref a4), some (.int a5)]) (st' := []) (h1 := (SH, s2)) rfl (Rn_if (fun h8 => ?_) (fun h8 => ?_))
      · replace hJ := m_ifp h8 hJ
        refine Rn_sq srt95 20 2 (pc' := 39) (ls' := [some (.ref 55), some (.int a1), some (.int a2), some (.int a3), some (.ref a4), some (.int a5)]) (st' := [(.int (ci 2)), (.ref 55)]) (h1 := (SH, s2)) rfl ?_
        obtain ⟨v11, s10, h9, hJ⟩ := m_b2 hJ
        refine Rn_call srt95 22 rfl rfl rfl ⟨Nat.le_of_ble_eq_true rfl, Nat.le_of_ble_eq_true rfl, rfl, Nat.le_of_ble_eq_true rfl⟩ (k_X7_refuse (d + 2) h9) (show Rn N xs (d + 3) me95 42 [some (.ref 55), some (.int a1), some (.int a2), some (.int a3), some (.ref a4), some (.int a5)] [(.int v11)] (SH, s10) r from ?_)
        obtain ⟨h12, hJ⟩ := m_gp hJ
        rw [← Option.some.inj hJ] at hC
        have hC : r = (some (.int v11), (SH, s10)) := hC
        subst hC
        exact Rn_ret srt95 23 rfl rfl (m_ret_b rfl h12)
      · replace hJ := m_ifn h8 hJ
        refine Rn_sq srt95 24 2 (pc' := 47) (ls' := [some (.ref 55), some (.int a1), some (.int a2), some (.int a3), some (.ref a4), some (.int a5)]) (st' := [(.ref a4), (.ref a4)]) (h1 := (SH, s2)) rfl ?_
        refine Rn_ev srt95 26 rfl rfl rfl (op_gfT3 h_a4) ?_
        refine Rn_sq srt95 27 5 (pc' := 58) (ls' := [some (.ref 55), some (.int a1), some (.int a2), some (.int a3), some (.ref a4), some (.int a5)]) (st' := [(.int (s2.1 55 15)), (.int a5), (.int ((s2.1 a4 3) - (ci 1))), (.ref a4)]) (h1 := (SH, s2)) rfl ?_
        obtain ⟨s14, h13, hJ⟩ := m_b1 hJ
        refine Rn_call srt95 32 rfl rfl rfl ⟨Nat.le_of_ble_eq_true rfl, Nat.le_of_ble_eq_true rfl, (recv_T h_a4), Nat.le_of_ble_eq_true rfl⟩ (k_X10_put a4 (d + 2) h_a4 h13) (show Rn N xs (d + 3) me95 61 [some (.ref 55), some (.int a1), some (.int a2), some (.int a3), some (.ref a4), some (.int a5)] [] (SH, s14) r from ?_)
        refine Rn_sq srt95 33 1 (pc' := 62) (ls' := [some (.ref 55), some (.int a1), some (.int a2), some (.int a3), some (.ref a4), some (.int a5)]) (st' := [(.ref 55)]) (h1 := (SH, s14)) rfl ?_
        obtain ⟨s16, h15, hJ⟩ := m_b1 hJ
        refine Rn_call srt95 34 rfl rfl rfl ⟨Nat.le_of_ble_eq_true rfl, Nat.le_of_ble_eq_true rfl, rfl, Nat.le_of_ble_eq_true rfl⟩ (k_X7_stepOn (d + 1) h15) (show Rn N xs (d + 3) me95 65 [some (.ref 55), some (.int a1), some (.int a2), some (.int a3), some (.ref a4), some (.int a5)] [] (SH, s16) r from ?_)
        refine Rn_sq srt95 35 1 (pc' := 66) (ls' := [some (.ref 55), some (.int a1), some (.int a2), some (.int a3), some (.ref a4), some (.int a5)]) (st' := [(.int (ci 1))]) (h1 := (SH, s16)) rfl ?_
        rw [← Option.some.inj hJ] at hC
        have hC : r = (some (.int (ci 1)), (SH, s16)) := hC
        subst hC
        exact Rn_ret srt95 36 rfl rfl (m_ret_b rfl (by decide))
    · replace hJ := m_ifn h5 hJ
      refine Rn_sq srt95 10 2 (pc' := 21) (ls' := [some (.ref 55), some (.int a1), some (.int a2), some (.int a3), some (.ref a4), some (.int a5)]) (st' := [(.int (ci 1)), (.ref 55)]) (h1 := (SH, s2)) rfl ?_
      obtain ⟨v19, s18, h17, hJ⟩ := m_b2 hJ
      refine Rn_call srt95 12 rfl rfl rfl ⟨Nat.le_of_ble_eq_true rfl, Nat.le_of_ble_eq_true rfl, rfl, Nat.le_of_ble_eq_true rfl⟩ (k_X7_refuse (d + 2) h17) (show Rn N xs (d + 3) me95 24 [some (.ref 55), some (.int a1), some (.int a2), some (.int a3), some (.ref a4), some (.int a5)] [(.int v19)] (SH, s18) r from ?_)
      obtain ⟨h20, hJ⟩ := m_gp hJ
      rw [← Option.some.inj hJ] at hC
      have hC : r = (some (.int v19), (SH, s18)) := hC
      subst hC
      exact Rn_ret srt95 13 rfl rfl (m_ret_b rfl h20)
theorem k_X7_readNamed {N : Nat} {xs : Nat → Int32} (a4 : Nat) (d : Nat) (h_a4 : isT a4) {s : mG} {a1 : Int32} {a2 : Int32} {a3 : Int32} {a5 : Int32} {τ : (Int32 × mG)} (hJ : F_X7_readNamed a4 a1 a2 a3 a5 s = some τ) : Rn N xs (d + 3) me95 0 [some (.ref 55), some (.int a1), some (.int a2), some (.int a3), some (.ref a4), some (.int a5)] [] (SH, s) (some (.int τ.1), (SH, τ.2)) := k_X7_readNamed_r a4 d h_a4 hJ rfl
/-! IsHeIn$Reader.readSign()Z -/
theorem srt92 : m_srt mc92 = true := by decide +kernel
def F_X7_readSign_71 (s : mG) : Option (Int32 × mG) :=
  some ((ci 0), s)
set_option maxRecDepth 4000 in
theorem k_X7_readSign_71 {N : Nat} {xs : Nat → Int32} (d : Nat) {r : Option Value × mH} {s : mG} {τ : (Int32 × mG)} (hJ : F_X7_readSign_71 s = some τ) (hC : (fun τ => r = (some (.int τ.1), (SH, τ.2))) τ) : Rn N xs (d + 4) me92 71 [none] [] (SH, s) r := by
  unfold F_X7_readSign_71 at hJ
  refine Rn_sq srt92 34 1 (pc' := 72) (ls' := [none]) (st' := [(.int (ci 0))]) (h1 := (SH, s)) rfl ?_
  rw [← Option.some.inj hJ] at hC
  have hC : r = (some (.int (ci 0)), (SH, s)) := hC
  subst hC
  exact Rn_ret srt92 35 rfl rfl (m_ret_b rfl (by decide))
def F_X7_readSign (s : mG) : Option (Int32 × mG) :=
  b2 (F_X7_readHead 60 (c16 275) s) fun v3 s2 =>
  if v3 = 0 then
    some ((ci 0), s2)
  else
    b1 (F_X7_stepOn s2) fun s6 =>
    b2 (F_X7_readNamed 60 (c16 276) (ci 1) (c16 999) (ci 0) s6) fun v9 s8 =>
    if v9 = 0 then
      F_X7_readSign_71 s8
    else
      b2 (F_X7_readNamed 60 (c16 277) (ci 1) (c16 999) (ci 1) s8) fun v13 s12 =>
      if v13 = 0 then
        F_X7_readSign_71 s12
      else
        b2 (F_X7_pass (c8 59) s12) fun v17 s16 =>
        if v17 = 0 then
          F_X7_readSign_71 s16
        else
          some ((ci 1), s16)
set_option maxRecDepth 4000 in
theorem k_X7_readSign_r {N : Nat} {xs : Nat → Int32} (d : Nat) {r : Option Value × mH} {s : mG} {τ : (Int32 × mG)} (hJ : F_X7_readSign s = some τ) (hC : (fun τ => r = (some (.int τ.1), (SH, τ.2))) τ) : Rn N xs (d + 4) me92 0 [some (.ref 55)] [] (SH, s) r := by
  unfold F_X7_readSign at hJ
  refine Rn_sq srt92 0 4 (pc' := 8) (ls' := [some (.ref 55)]) (st' := [(.ref 60), (.int (c16 275)), (.ref 55)]) (h1 := (SH, s)) rfl ?_
  obtain ⟨v3, s2, h1, hJ⟩ := m_b2 hJ
  refine Rn_call srt92 4 rfl rfl rfl ⟨Nat.le_of_ble_eq_true rfl, Nat.le_of_ble_eq_true rfl, rfl, Nat.le_of_ble_eq_true rfl⟩ (k_X7_readHead 60 (d + 1) isT_60 h1) (show Rn N xs (d + 4) me92 11 [some (.ref 55)] [(.int v3)] (SH, s2) r from ?_)
  refine Rn_sq srt92 5 1 (pc' := (if v3 = 0 then 14 else 16)) (ls' := [some (.ref 55)]) (st' := []) (h1 := (SH, s2)) rfl (Rn_if (fun h4 => ?_) (fun h4 => ?_))
  · replace hJ := m_ifp h4 hJ
    refine Rn_sq srt92 6 1 (pc' := 15) (ls' := [some (.ref 55)]) (st' := [(.int (ci 0))]) (h1 := (SH, s2)) rfl ?_
    rw [← Option.some.inj hJ] at hC
    have hC : r = (some (.int (ci 0)), (SH, s2)) := hC
    subst hC
    exact Rn_ret srt92 7 rfl rfl (m_ret_b rfl (by decide))
  · replace hJ := m_ifn h4 hJ
    refine Rn_sq srt92 8 1 (pc' := 17) (ls' := [some (.ref 55)]) (st' := [(.ref 55)]) (h1 := (SH, s2)) rfl ?_
    obtain ⟨s6, h5, hJ⟩ := m_b1 hJ
    refine Rn_call srt92 9 rfl rfl rfl ⟨Nat.le_of_ble_eq_true rfl, Nat.le_of_ble_eq_true rfl, rfl, Nat.le_of_ble_eq_true rfl⟩ (k_X7_stepOn (d + 2) h5) (show Rn N xs (d + 4) me92 20 [some (.ref 55)] [] (SH, s6) r from ?_)
    refine Rn_sq srt92 10 7 (pc' := 33) (ls' := [some (.ref 55)]) (st' := [(.int (ci 0)), (.ref 60), (.int (c16 999)), (.int (ci 1)), (.int (c16 276)), (.ref 55)]) (h1 := (SH, s6)) rfl ?_
    obtain ⟨v9, s8, h7, hJ⟩ := m_b2 hJ
    refine Rn_call srt92 17 rfl rfl rfl ⟨Nat.le_of_ble_eq_true rfl, Nat.le_of_ble_eq_true rfl, rfl, Nat.le_of_ble_eq_true rfl⟩ (k_X7_readNamed 60 (d) isT_60 h7) (show Rn N xs (d + 4) me92 36 [some (.ref 55)] [(.int v9)] (SH, s8) r from ?_)
    refine Rn_sq srt92 18 1 (pc' := (if v9 = 0 then 71 else 39)) (ls' := [some (.ref 55)]) (st' := []) (h1 := (SH, s8)) rfl (Rn_if (fun h10 => ?_) (fun h10 => ?_))
    · replace hJ := m_ifp h10 hJ
      exact Rn_weaken (a := [none]) (b := [some (.ref 55)]) trivial rfl (k_X7_readSign_71 d hJ hC)
    · replace hJ := m_ifn h10 hJ
      refine Rn_sq srt92 19 7 (pc' := 52) (ls' := [some (.ref 55)]) (st' := [(.int (ci 1)), (.ref 60), (.int (c16 999)), (.int (ci 1)), (.int (c16 277)), (.ref 55)]) (h1 := (SH, s8)) rfl ?_
      obtain ⟨v13, s12, h11, hJ⟩ := m_b2 hJ
      refine Rn_call srt92 26 rfl rfl rfl ⟨Nat.le_of_ble_eq_true rfl, Nat.le_of_ble_eq_true rfl, rfl, Nat.le_of_ble_eq_true rfl⟩ (k_X7_readNamed 60 (d) isT_60 h11) (show Rn N xs (d + 4) me92 55 [some (.ref 55)] [(.int v13)] (SH, s12) r from ?_)
      refine Rn_sq srt92 27 1 (pc' := (if v13 = 0 then 71 else 58)) (ls' := [some (.ref 55)]) (st' := []) (h1 := (SH, s12)) rfl (Rn_if (fun h14 => ?_) (fun h14 => ?_))
      · replace hJ := m_ifp h14 hJ
        exact Rn_weaken (a := [none]) (b := [some (.ref 55)]) trivial rfl (k_X7_readSign_71 d hJ hC)
      · replace hJ := m_ifn h14 hJ
        refine Rn_sq srt92 28 2 (pc' := 61) (ls' := [some (.ref 55)]) (st' := [(.int (c8 59)), (.ref 55)]) (h1 := (SH, s12)) rfl ?_
        obtain ⟨v17, s16, h15, hJ⟩ := m_b2 hJ
        refine Rn_call srt92 30 rfl rfl rfl ⟨Nat.le_of_ble_eq_true rfl, Nat.le_of_ble_eq_true rfl, rfl, Nat.le_of_ble_eq_true rfl⟩ (k_X7_pass (d + 1) h15) (show Rn N xs (d + 4) me92 64 [some (.ref 55)] [(.int v17)] (SH, s16) r from ?_)
        refine Rn_sq srt92 31 1 (pc' := (if v17 = 0 then 71 else 67)) (ls' := [some (.ref 55)]) (st' := []) (h1 := (SH, s16)) rfl (Rn_if (fun h18 => ?_) (fun h18 => ?_))
        · replace hJ := m_ifp h18 hJ
          exact Rn_weaken (a := [none]) (b := [some (.ref 55)]) trivial rfl (k_X7_readSign_71 d hJ hC)
        · replace hJ := m_ifn h18 hJ
          refine Rn_sq srt92 32 2 (pc' := 72) (ls' := [some (.ref 55)]) (st' := [(.int (ci 1))]) (h1 := (SH, s16)) rfl ?_
          rw [← Option.some.inj hJ] at hC
          have hC : r = (some (.int (ci 1)), (SH, s16)) := hC
          subst hC
          exact Rn_ret srt92 35 rfl rfl (m_ret_b rfl (by decide))
theorem k_X7_readSign {N : Nat} {xs : Nat → Int32} (d : Nat) {s : mG} {τ : (Int32 × mG)} (hJ : F_X7_readSign s = some τ) : Rn N xs (d + 4) me92 0 [some (.ref 55)] [] (SH, s) (some (.int τ.1), (SH, τ.2)) := k_X7_readSign_r d hJ rfl
/-! IsHeIn$Reader.readShift()Z -/
theorem srt93 : m_srt mc93 = true := by decide +kernel
def F_X7_readShift_97 (s : mG) : Option (Int32 × mG) :=
  some ((ci 0), s)
set_option maxRecDepth 4000 in
theorem k_X7_readShift_97 {N : Nat} {xs : Nat → Int32} (d : Nat) {r : Option Value × mH} {s : mG} {τ : (Int32 × mG)} (hJ : F_X7_readShift_97 s = some τ) (hC : (fun τ => r = (some (.int τ.1), (SH, τ.2))) τ) : Rn N xs (d + 4) me93 97 [none] [] (SH, s) r := by
  unfold F_X7_readShift_97 at hJ
  refine Rn_sq srt93 48 1 (pc' := 98) (ls' := [none]) (st' := [(.int (ci 0))]) (h1 := (SH, s)) rfl ?_
  rw [← Option.some.inj hJ] at hC
  have hC : r = (some (.int (ci 0)), (SH, s)) := hC
  subst hC
  exact Rn_ret srt93 49 rfl rfl (m_ret_b rfl (by decide))
def F_X7_readShift (s : mG) : Option (Int32 × mG) :=
  b2 (F_X7_readHead 62 (c16 278) s) fun v3 s2 =>
  if v3 = 0 then
    F_X7_readShift_97 s2
  else
    b2 (F_X7_readNamed 62 (c16 278) (ci 0) (ci 3) (ci 0) s2) fun v7 s6 =>
    if v7 = 0 then
      F_X7_readShift_97 s6
    else
      b2 (F_X7_readNamed 62 (c16 279) (ci 0) (c8 23) (ci 1) s6) fun v11 s10 =>
      if v11 = 0 then
        F_X7_readShift_97 s10
      else
        b2 (F_X7_readNamed 62 (c16 280) (ci 1) (c8 24) (ci 2) s10) fun v15 s14 =>
        if v15 = 0 then
          F_X7_readShift_97 s14
        else
          b2 (F_X7_readNamed 62 (c16 281) (ci 0) (ci 1) (ci 3) s14) fun v19 s18 =>
          if v19 = 0 then
            F_X7_readShift_97 s18
          else
            b2 (F_X7_pass (c8 59) s18) fun v23 s22 =>
            if v23 = 0 then
              F_X7_readShift_97 s22
            else
              some ((ci 1), s22)
set_option maxRecDepth 4000 in
theorem k_X7_readShift_r {N : Nat} {xs : Nat → Int32} (d : Nat) {r : Option Value × mH} {s : mG} {τ : (Int32 × mG)} (hJ : F_X7_readShift s = some τ) (hC : (fun τ => r = (some (.int τ.1), (SH, τ.2))) τ) : Rn N xs (d + 4) me93 0 [some (.ref 55)] [] (SH, s) r := by
  unfold F_X7_readShift at hJ
  refine Rn_sq srt93 0 4 (pc' := 8) (ls' := [some (.ref 55)]) (st' := [(.ref 62), (.int (c16 278)), (.ref 55)]) (h1 := (SH, s)) rfl ?_
  obtain ⟨v3, s2, h1, hJ⟩ := m_b2 hJ
  refine Rn_call srt93 4 rfl rfl rfl ⟨Nat.le_of_ble_eq_true rfl, Nat.le_of_ble_eq_true rfl, rfl, Nat.le_of_ble_eq_true rfl⟩ (k_X7_readHead 62 (d + 1) isT_62 h1) (show Rn N xs (d + 4) me93 11 [some (.ref 55)] [(.int v3)] (SH, s2) r from ?_)
  refine Rn_sq srt93 5 1 (pc' := (if v3 = 0 then 97 else 14)) (ls' := [some (.ref 55)]) (st' := []) (h1 := (SH, s2)) rfl (Rn_if (fun h4 => ?_) (fun h4 => ?_))
  · replace hJ := m_ifp h4 hJ
    exact Rn_weaken (a := [none]) (b := [some (.ref 55)]) trivial rfl (k_X7_readShift_97 d hJ hC)
  · replace hJ := m_ifn h4 hJ
    refine Rn_sq srt93 6 7 (pc' := 25) (ls' := [some (.ref 55)]) (st' := [(.int (ci 0)), (.ref 62), (.int (ci 3)), (.int (ci 0)), (.int (c16 278)), (.ref 55)]) (h1 := (SH, s2)) rfl ?_
    obtain ⟨v7, s6, h5, hJ⟩ := m_b2 hJ
    refine Rn_call srt93 13 rfl rfl rfl ⟨Nat.le_of_ble_eq_true rfl, Nat.le_of_ble_eq_true rfl, rfl, Nat.le_of_ble_eq_true rfl⟩ (k_X7_readNamed 62 (d) isT_62 h5) (show Rn N xs (d + 4) me93 28 [some (.ref 55)] [(.int v7)] (SH, s6) r from ?_)
    refine Rn_sq srt93 14 1 (pc' := (if v7 = 0 then 97 else 31)) (ls' := [some (.ref 55)]) (st' := []) (h1 := (SH, s6)) rfl (Rn_if (fun h8 => ?_) (fun h8 => ?_))
    · replace hJ := m_ifp h8 hJ
      exact Rn_weaken (a := [none]) (b := [some (.ref 55)]) trivial rfl (k_X7_readShift_97 d hJ hC)
    · replace hJ := m_ifn h8 hJ
      refine Rn_sq srt93 15 7 (pc' := 43) (ls' := [some (.ref 55)]) (st' := [(.int (ci 1)), (.ref 62), (.int (c8 23)), (.int (ci 0)), (.int (c16 279)), (.ref 55)]) (h1 := (SH, s6)) rfl ?_
      obtain ⟨v11, s10, h9, hJ⟩ := m_b2 hJ
      refine Rn_call srt93 22 rfl rfl rfl ⟨Nat.le_of_ble_eq_true rfl, Nat.le_of_ble_eq_true rfl, rfl, Nat.le_of_ble_eq_true rfl⟩ (k_X7_readNamed 62 (d) isT_62 h9) (show Rn N xs (d + 4) me93 46 [some (.ref 55)] [(.int v11)] (SH, s10) r from ?_)
      refine Rn_sq srt93 23 1 (pc' := (if v11 = 0 then 97 else 49)) (ls' := [some (.ref 55)]) (st' := []) (h1 := (SH, s10)) rfl (Rn_if (fun h12 => ?_) (fun h12 => ?_))
      · replace hJ := m_ifp h12 hJ
        exact Rn_weaken (a := [none]) (b := [some (.ref 55)]) trivial rfl (k_X7_readShift_97 d hJ hC)
      · replace hJ := m_ifn h12 hJ
        refine Rn_sq srt93 24 7 (pc' := 61) (ls' := [some (.ref 55)]) (st' := [(.int (ci 2)), (.ref 62), (.int (c8 24)), (.int (ci 1)), (.int (c16 280)), (.ref 55)]) (h1 := (SH, s10)) rfl ?_
        obtain ⟨v15, s14, h13, hJ⟩ := m_b2 hJ
        refine Rn_call srt93 31 rfl rfl rfl ⟨Nat.le_of_ble_eq_true rfl, Nat.le_of_ble_eq_true rfl, rfl, Nat.le_of_ble_eq_true rfl⟩ (k_X7_readNamed 62 (d) isT_62 h13) (show Rn N xs (d + 4) me93 64 [some (.ref 55)] [(.int v15)] (SH, s14) r from ?_)
        refine Rn_sq srt93 32 1 (pc' := (if v15 = 0 then 97 else 67)) (ls' := [some (.ref 55)]) (st' := []) (h1 := (SH, s14)) rfl (Rn_if (fun h16 => ?_) (fun h16 => ?_))
        · replace hJ := m_ifp h16 hJ
          exact Rn_weaken (a := [none]) (b := [some (.ref 55)]) trivial rfl (k_X7_readShift_97 d hJ hC)
        · replace hJ := m_ifn h16 hJ
          refine Rn_sq srt93 33 7 (pc' := 78) (ls' := [some (.ref 55)]) (st' := [(.int (ci 3)), (.ref 62), (.int (ci 1)), (.int (ci 0)), (.int (c16 281)), (.ref 55)]) (h1 := (SH, s14)) rfl ?_
          obtain ⟨v19, s18, h17, hJ⟩ := m_b2 hJ
          refine Rn_call srt93 40 rfl rfl rfl ⟨Nat.le_of_ble_eq_true rfl, Nat.le_of_ble_eq_true rfl, rfl, Nat.le_of_ble_eq_true rfl⟩ (k_X7_readNamed 62 (d) isT_62 h17) (show Rn N xs (d + 4) me93 81 [some (.ref 55)] [(.int v19)] (SH, s18) r from ?_)
          refine Rn_sq srt93 41 1 (pc' := (if v19 = 0 then 97 else 84)) (ls' := [some (.ref 55)]) (st' := []) (h1 := (SH, s18)) rfl (Rn_if (fun h20 => ?_) (fun h20 => ?_))
          · replace hJ := m_ifp h20 hJ
            exact Rn_weaken (a := [none]) (b := [some (.ref 55)]) trivial rfl (k_X7_readShift_97 d hJ hC)
          · replace hJ := m_ifn h20 hJ
            refine Rn_sq srt93 42 2 (pc' := 87) (ls' := [some (.ref 55)]) (st' := [(.int (c8 59)), (.ref 55)]) (h1 := (SH, s18)) rfl ?_
            obtain ⟨v23, s22, h21, hJ⟩ := m_b2 hJ
            refine Rn_call srt93 44 rfl rfl rfl ⟨Nat.le_of_ble_eq_true rfl, Nat.le_of_ble_eq_true rfl, rfl, Nat.le_of_ble_eq_true rfl⟩ (k_X7_pass (d + 1) h21) (show Rn N xs (d + 4) me93 90 [some (.ref 55)] [(.int v23)] (SH, s22) r from ?_)
            refine Rn_sq srt93 45 1 (pc' := (if v23 = 0 then 97 else 93)) (ls' := [some (.ref 55)]) (st' := []) (h1 := (SH, s22)) rfl (Rn_if (fun h24 => ?_) (fun h24 => ?_))
            · replace hJ := m_ifp h24 hJ
              exact Rn_weaken (a := [none]) (b := [some (.ref 55)]) trivial rfl (k_X7_readShift_97 d hJ hC)
            · replace hJ := m_ifn h24 hJ
              refine Rn_sq srt93 46 2 (pc' := 98) (ls' := [some (.ref 55)]) (st' := [(.int (ci 1))]) (h1 := (SH, s22)) rfl ?_
              rw [← Option.some.inj hJ] at hC
              have hC : r = (some (.int (ci 1)), (SH, s22)) := hC
              subst hC
              exact Rn_ret srt93 49 rfl rfl (m_ret_b rfl (by decide))
theorem k_X7_readShift {N : Nat} {xs : Nat → Int32} (d : Nat) {s : mG} {τ : (Int32 × mG)} (hJ : F_X7_readShift s = some τ) : Rn N xs (d + 4) me93 0 [some (.ref 55)] [] (SH, s) (some (.int τ.1), (SH, τ.2)) := k_X7_readShift_r d hJ rfl
/-! IsHeIn$Reader.isReckoning(I)Z -/
theorem srt98 : m_srt mc98 = true := by decide +kernel
def F_X7_isReckoning_24 (s : mG) : Option (Int32) :=
  some (ci 1)
set_option maxRecDepth 4000 in
theorem k_X7_isReckoning_24 {N : Nat} {xs : Nat → Int32} (d : Nat) {r : Option Value × mH} {s : mG} {τ : (Int32)} (hJ : F_X7_isReckoning_24 s = some τ) (hC : (fun τ => r = (some (.int τ), (SH, s))) τ) : Rn N xs (d + 0) me98 24 [none] [] (SH, s) r := by
  unfold F_X7_isReckoning_24 at hJ
  refine Rn_sq srt98 12 2 (pc' := 29) (ls' := [none]) (st' := [(.int (ci 1))]) (h1 := (SH, s)) rfl ?_
  rw [← Option.some.inj hJ] at hC
  have hC : r = (some (.int (ci 1)), (SH, s)) := hC
  subst hC
  exact Rn_ret srt98 15 rfl rfl (m_ret_b rfl (by decide))
def F_X7_isReckoning (s : mG) (a1 : Int32) : Option (Int32) :=
  if a1 = (c8 43) then
    F_X7_isReckoning_24 s
  else
    if a1 = (c8 45) then
      F_X7_isReckoning_24 s
    else
      if a1 = (c8 42) then
        F_X7_isReckoning_24 s
      else
        if a1 = (c8 47) then
          F_X7_isReckoning_24 s
        else
          some (ci 0)
set_option maxRecDepth 4000 in
theorem k_X7_isReckoning_r {N : Nat} {xs : Nat → Int32} (d : Nat) {r : Option Value × mH} {s : mG} {a1 : Int32} {τ : (Int32)} (hJ : F_X7_isReckoning s a1 = some τ) (hC : (fun τ => r = (some (.int τ), (SH, s))) τ) : Rn N xs (d + 0) me98 0 [some (.int a1)] [] (SH, s) r := by
  unfold F_X7_isReckoning at hJ
  refine Rn_sq srt98 0 3 (pc' := (if a1 = (c8 43) then 24 else 6)) (ls' := [some (.int a1)]) (st' := []) (h1 := (SH, s)) rfl (Rn_if (fun h1 => ?_) (fun h1 => ?_))
  · replace hJ := m_ifp h1 hJ
    exact Rn_weaken (a := [none]) (b := [some (.int a1)]) trivial rfl (k_X7_isReckoning_24 d hJ hC)
  · replace hJ := m_ifn h1 hJ
    refine Rn_sq srt98 3 3 (pc' := (if a1 = (c8 45) then 24 else 12)) (ls' := [some (.int a1)]) (st' := []) (h1 := (SH, s)) rfl (Rn_if (fun h2 => ?_) (fun h2 => ?_))
    · replace hJ := m_ifp h2 hJ
      exact Rn_weaken (a := [none]) (b := [some (.int a1)]) trivial rfl (k_X7_isReckoning_24 d hJ hC)
    · replace hJ := m_ifn h2 hJ
      refine Rn_sq srt98 6 3 (pc' := (if a1 = (c8 42) then 24 else 18)) (ls' := [some (.int a1)]) (st' := []) (h1 := (SH, s)) rfl (Rn_if (fun h3 => ?_) (fun h3 => ?_))
      · replace hJ := m_ifp h3 hJ
        exact Rn_weaken (a := [none]) (b := [some (.int a1)]) trivial rfl (k_X7_isReckoning_24 d hJ hC)
      · replace hJ := m_ifn h3 hJ
        refine Rn_sq srt98 9 3 (pc' := (if a1 = (c8 47) then 24 else 28)) (ls' := [some (.int a1)]) (st' := []) (h1 := (SH, s)) rfl (Rn_if (fun h4 => ?_) (fun h4 => ?_))
        · replace hJ := m_ifp h4 hJ
          exact Rn_weaken (a := [none]) (b := [some (.int a1)]) trivial rfl (k_X7_isReckoning_24 d hJ hC)
        · replace hJ := m_ifn h4 hJ
          refine Rn_sq srt98 14 1 (pc' := 29) (ls' := [some (.int a1)]) (st' := [(.int (ci 0))]) (h1 := (SH, s)) rfl ?_
          rw [← Option.some.inj hJ] at hC
          have hC : r = (some (.int (ci 0)), (SH, s)) := hC
          subst hC
          exact Rn_ret srt98 15 rfl rfl (m_ret_b rfl (by decide))
theorem k_X7_isReckoning {N : Nat} {xs : Nat → Int32} (d : Nat) {s : mG} {a1 : Int32} {τ : (Int32)} (hJ : F_X7_isReckoning s a1 = some τ) : Rn N xs (d + 0) me98 0 [some (.int a1)] [] (SH, s) (some (.int τ), (SH, s)) := k_X7_isReckoning_r d hJ rfl
/-! IsHeIn$Table.push(I)V -/
theorem srt135 : m_srt mc135 = true := by decide +kernel
def F_X10_push (t : Nat) (a1 : Int32) (s : mG) : Option (mG) :=
  if (s.1 t 0) ≤ (s.1 t 3) then
    some s
  else
    let s2 : mG := (mu s.1 t 3 ((s.1 t 3) + (ci 1)), s.2)
    b1 (F_X10_put t ((s2.1 t 3) - (ci 1)) (ci 0) a1 s2) fun s4 =>
    some s4
set_option maxRecDepth 4000 in
theorem k_X10_push_r {N : Nat} {xs : Nat → Int32} (t : Nat) (d : Nat) (h_t : isT t) {r : Option Value × mH} {s : mG} {a1 : Int32} {τ : (mG)} (hJ : F_X10_push t a1 s = some τ) (hC : (fun τ => r = (none, (SH, τ))) τ) : Rn N xs (d + 1) me135 0 [some (.ref t), some (.int a1)] [] (SH, s) r := by
  unfold F_X10_push at hJ
  refine Rn_sq srt135 0 1 (pc' := 1) (ls' := [some (.ref t), some (.int a1)]) (st' := [(.ref t)]) (h1 := (SH, s)) rfl ?_
  refine Rn_ev srt135 1 rfl rfl rfl (op_gfT3 h_t) ?_
  refine Rn_sq srt135 2 1 (pc' := 5) (ls' := [some (.ref t), some (.int a1)]) (st' := [(.ref t), (.int (s.1 t 3))]) (h1 := (SH, s)) rfl ?_
  refine Rn_ev srt135 3 rfl rfl rfl (op_gfT0 h_t) ?_
  refine Rn_sq srt135 4 1 (pc' := (if (s.1 t 0) ≤ (s.1 t 3) then 33 else 11)) (ls' := [some (.ref t), some (.int a1)]) (st' := []) (h1 := (SH, s)) rfl (Rn_if (fun h1 => ?_) (fun h1 => ?_))
  · replace hJ := m_ifp h1 hJ
    rw [← Option.some.inj hJ] at hC
    have hC : r = (none, (SH, s)) := hC
    subst hC
    exact Rn_ret srt135 19 rfl rfl rfl
  · replace hJ := m_ifn h1 hJ
    refine Rn_sq srt135 5 2 (pc' := 13) (ls' := [some (.ref t), some (.int a1)]) (st' := [(.ref t), (.ref t)]) (h1 := (SH, s)) rfl ?_
    refine Rn_ev srt135 7 rfl rfl rfl (op_gfT3 h_t) ?_
    refine Rn_sq srt135 8 2 (pc' := 18) (ls' := [some (.ref t), some (.int a1)]) (st' := [(.int ((s.1 t 3) + (ci 1))), (.ref t)]) (h1 := (SH, s)) rfl ?_
    extract_lets +onlyGivenNames s2 at hJ
    refine Rn_ev srt135 10 rfl rfl rfl (op_pfT3 h_t) ?_
    refine Rn_sq srt135 11 2 (pc' := 23) (ls' := [some (.ref t), some (.int a1)]) (st' := [(.ref t), (.ref t)]) (h1 := (SH, s2)) rfl ?_
    refine Rn_ev srt135 13 rfl rfl rfl (op_gfT3 h_t) ?_
    refine Rn_sq srt135 14 4 (pc' := 30) (ls' := [some (.ref t), some (.int a1)]) (st' := [(.int a1), (.int (ci 0)), (.int ((s2.1 t 3) - (ci 1))), (.ref t)]) (h1 := (SH, s2)) rfl ?_
    obtain ⟨s4, h3, hJ⟩ := m_b1 hJ
    refine Rn_call srt135 18 rfl rfl rfl ⟨Nat.le_of_ble_eq_true rfl, Nat.le_of_ble_eq_true rfl, (recv_T h_t), Nat.le_of_ble_eq_true rfl⟩ (k_X10_put t (d) h_t h3) (show Rn N xs (d + 1) me135 33 [some (.ref t), some (.int a1)] [] (SH, s4) r from ?_)
    rw [← Option.some.inj hJ] at hC
    have hC : r = (none, (SH, s4)) := hC
    subst hC
    exact Rn_ret srt135 19 rfl rfl rfl
theorem k_X10_push {N : Nat} {xs : Nat → Int32} (t : Nat) (d : Nat) (h_t : isT t) {s : mG} {a1 : Int32} {τ : (mG)} (hJ : F_X10_push t a1 s = some τ) : Rn N xs (d + 1) me135 0 [some (.ref t), some (.int a1)] [] (SH, s) (none, (SH, τ)) := k_X10_push_r t d h_t hJ rfl
/-! IsHeIn$Reader.emitIfAny(I)V -/
theorem srt99 : m_srt mc99 = true := by decide +kernel
def F_X7_emitIfAny (a1 : Int32) (s : mG) : Option (mG) :=
  if a1 = (ci (-1)) then
    some s
  else
    b1 (F_X10_push 58 (a1 * (c16 10000)) s) fun s3 =>
    some s3
set_option maxRecDepth 4000 in
theorem k_X7_emitIfAny_r {N : Nat} {xs : Nat → Int32} (d : Nat) {r : Option Value × mH} {s : mG} {a1 : Int32} {τ : (mG)} (hJ : F_X7_emitIfAny a1 s = some τ) (hC : (fun τ => r = (none, (SH, τ))) τ) : Rn N xs (d + 2) me99 0 [some (.ref 55), some (.int a1)] [] (SH, s) r := by
  unfold F_X7_emitIfAny at hJ
  refine Rn_sq srt99 0 3 (pc' := (if a1 = (ci (-1)) then 17 else 5)) (ls' := [some (.ref 55), some (.int a1)]) (st' := []) (h1 := (SH, s)) rfl (Rn_if (fun h1 => ?_) (fun h1 => ?_))
  · replace hJ := m_ifp h1 hJ
    rw [← Option.some.inj hJ] at hC
    have hC : r = (none, (SH, s)) := hC
    subst hC
    exact Rn_ret srt99 9 rfl rfl rfl
  · replace hJ := m_ifn h1 hJ
    refine Rn_sq srt99 3 5 (pc' := 14) (ls' := [some (.ref 55), some (.int a1)]) (st' := [(.int (a1 * (c16 10000))), (.ref 58)]) (h1 := (SH, s)) rfl ?_
    obtain ⟨s3, h2, hJ⟩ := m_b1 hJ
    refine Rn_call srt99 8 rfl rfl rfl ⟨Nat.le_of_ble_eq_true rfl, Nat.le_of_ble_eq_true rfl, rfl, Nat.le_of_ble_eq_true rfl⟩ (k_X10_push 58 (d) isT_58 h2) (show Rn N xs (d + 2) me99 17 [some (.ref 55), some (.int a1)] [] (SH, s3) r from ?_)
    rw [← Option.some.inj hJ] at hC
    have hC : r = (none, (SH, s3)) := hC
    subst hC
    exact Rn_ret srt99 9 rfl rfl rfl
theorem k_X7_emitIfAny {N : Nat} {xs : Nat → Int32} (d : Nat) {s : mG} {a1 : Int32} {τ : (mG)} (hJ : F_X7_emitIfAny a1 s = some τ) : Rn N xs (d + 2) me99 0 [some (.ref 55), some (.int a1)] [] (SH, s) (none, (SH, τ)) := k_X7_emitIfAny_r d hJ rfl
/-! IsHeIn$Reader.readUnit()Z -/
theorem srt100 : m_srt mc100 = true := by decide +kernel
def F_X7_readUnit_68 (s : mG) : Option (Int32 × mG) :=
  b1 (F_X7_stepOn s) fun s6 =>
  some ((ci 1), s6)
set_option maxRecDepth 4000 in
theorem k_X7_readUnit_68 {N : Nat} {xs : Nat → Int32} (d : Nat) {r : Option Value × mH} {s : mG} {τ : (Int32 × mG)} (hJ : F_X7_readUnit_68 s = some τ) (hC : (fun τ => r = (some (.int τ.1), (SH, τ.2))) τ) : Rn N xs (d + 2) me100 68 [some (.ref 55), none] [] (SH, s) r := by
  unfold F_X7_readUnit_68 at hJ
  refine Rn_sq srt100 35 1 (pc' := 69) (ls' := [some (.ref 55), none]) (st' := [(.ref 55)]) (h1 := (SH, s)) rfl ?_
  obtain ⟨s6, h5, hJ⟩ := m_b1 hJ
  refine Rn_call srt100 36 rfl rfl rfl ⟨Nat.le_of_ble_eq_true rfl, Nat.le_of_ble_eq_true rfl, rfl, Nat.le_of_ble_eq_true rfl⟩ (k_X7_stepOn (d) h5) (show Rn N xs (d + 2) me100 72 [some (.ref 55), none] [] (SH, s6) r from ?_)
  refine Rn_sq srt100 37 1 (pc' := 73) (ls' := [some (.ref 55), none]) (st' := [(.int (ci 1))]) (h1 := (SH, s6)) rfl ?_
  rw [← Option.some.inj hJ] at hC
  have hC : r = (some (.int (ci 1)), (SH, s6)) := hC
  subst hC
  exact Rn_ret srt100 38 rfl rfl (m_ret_b rfl (by decide))
def F_X7_readUnit_62 (s : mG) : Option (Int32 × mG) :=
  b2 (F_X7_refuse (ci 1) s) fun v10 s9 =>
  if v10 = 0 ∨ v10 = 1 then
    some (v10, s9)
  else none
set_option maxRecDepth 4000 in
theorem k_X7_readUnit_62 {N : Nat} {xs : Nat → Int32} (d : Nat) {r : Option Value × mH} {s : mG} {τ : (Int32 × mG)} (hJ : F_X7_readUnit_62 s = some τ) (hC : (fun τ => r = (some (.int τ.1), (SH, τ.2))) τ) : Rn N xs (d + 2) me100 62 [some (.ref 55), none] [] (SH, s) r := by
  unfold F_X7_readUnit_62 at hJ
  refine Rn_sq srt100 31 2 (pc' := 64) (ls' := [some (.ref 55), none]) (st' := [(.int (ci 1)), (.ref 55)]) (h1 := (SH, s)) rfl ?_
  obtain ⟨v10, s9, h8, hJ⟩ := m_b2 hJ
  refine Rn_call srt100 33 rfl rfl rfl ⟨Nat.le_of_ble_eq_true rfl, Nat.le_of_ble_eq_true rfl, rfl, Nat.le_of_ble_eq_true rfl⟩ (k_X7_refuse (d + 1) h8) (show Rn N xs (d + 2) me100 67 [some (.ref 55), none] [(.int v10)] (SH, s9) r from ?_)
  obtain ⟨h11, hJ⟩ := m_gp hJ
  rw [← Option.some.inj hJ] at hC
  have hC : r = (some (.int v10), (SH, s9)) := hC
  subst hC
  exact Rn_ret srt100 34 rfl rfl (m_ret_b rfl h11)
def F_X7_readUnit (s : mG) : Option (Int32 × mG) :=
  let v1 : Int32 := (((s.1 55 14) - (c16 256)) - (c8 6))
  if (s.1 55 14) = (c8 (-2)) then
    b1 (F_X10_push 58 ((ci 0) + (s.1 55 15)) s) fun s4 =>
    F_X7_readUnit_68 s4
  else
    if v1 < 0 then
      F_X7_readUnit_62 s
    else
      if (c8 9) ≤ v1 then
        F_X7_readUnit_62 s
      else
        b1 (F_X10_push 58 ((c16 10000) + v1) s) fun s14 =>
        F_X7_readUnit_68 s14
set_option maxRecDepth 4000 in
theorem k_X7_readUnit_r {N : Nat} {xs : Nat → Int32} (d : Nat) {r : Option Value × mH} {s : mG} {τ : (Int32 × mG)} (hJ : F_X7_readUnit s = some τ) (hC : (fun τ => r = (some (.int τ.1), (SH, τ.2))) τ) : Rn N xs (d + 2) me100 0 [some (.ref 55), none] [] (SH, s) r := by
  unfold F_X7_readUnit at hJ
  extract_lets +onlyGivenNames v1 at hJ
  refine Rn_sq srt100 0 11 (pc' := (if (s.1 55 14) = (c8 (-2)) then 21 else 37)) (ls' := [some (.ref 55), some (.int v1)]) (st' := []) (h1 := (SH, s)) rfl (Rn_if (fun h2 => ?_) (fun h2 => ?_))
  · replace hJ := m_ifp h2 hJ
    refine Rn_sq srt100 11 6 (pc' := 31) (ls' := [some (.ref 55), some (.int v1)]) (st' := [(.int ((ci 0) + (s.1 55 15))), (.ref 58)]) (h1 := (SH, s)) rfl ?_
    obtain ⟨s4, h3, hJ⟩ := m_b1 hJ
    refine Rn_call srt100 17 rfl rfl rfl ⟨Nat.le_of_ble_eq_true rfl, Nat.le_of_ble_eq_true rfl, rfl, Nat.le_of_ble_eq_true rfl⟩ (k_X10_push 58 (d) isT_58 h3) (show Rn N xs (d + 2) me100 34 [some (.ref 55), some (.int v1)] [] (SH, s4) r from ?_)
    refine Rn_sq srt100 18 1 (pc' := 68) (ls' := [some (.ref 55), some (.int v1)]) (st' := []) (h1 := (SH, s4)) rfl ?_
    exact Rn_weaken (a := [some (.ref 55), none]) (b := [some (.ref 55), some (.int v1)]) (And.intro rfl trivial) rfl (k_X7_readUnit_68 d hJ hC)
  · replace hJ := m_ifn h2 hJ
    refine Rn_sq srt100 19 2 (pc' := (if v1 < 0 then 62 else 41)) (ls' := [some (.ref 55), some (.int v1)]) (st' := []) (h1 := (SH, s)) rfl (Rn_if (fun h7 => ?_) (fun h7 => ?_))
    · replace hJ := m_ifp h7 hJ
      exact Rn_weaken (a := [some (.ref 55), none]) (b := [some (.ref 55), some (.int v1)]) (And.intro rfl trivial) rfl (k_X7_readUnit_62 d hJ hC)
    · replace hJ := m_ifn h7 hJ
      refine Rn_sq srt100 21 3 (pc' := (if (c8 9) ≤ v1 then 62 else 47)) (ls' := [some (.ref 55), some (.int v1)]) (st' := []) (h1 := (SH, s)) rfl (Rn_if (fun h12 => ?_) (fun h12 => ?_))
      · replace hJ := m_ifp h12 hJ
        exact Rn_weaken (a := [some (.ref 55), none]) (b := [some (.ref 55), some (.int v1)]) (And.intro rfl trivial) rfl (k_X7_readUnit_62 d hJ hC)
      · replace hJ := m_ifn h12 hJ
        refine Rn_sq srt100 24 5 (pc' := 56) (ls' := [some (.ref 55), some (.int v1)]) (st' := [(.int ((c16 10000) + v1)), (.ref 58)]) (h1 := (SH, s)) rfl ?_
        obtain ⟨s14, h13, hJ⟩ := m_b1 hJ
        refine Rn_call srt100 29 rfl rfl rfl ⟨Nat.le_of_ble_eq_true rfl, Nat.le_of_ble_eq_true rfl, rfl, Nat.le_of_ble_eq_true rfl⟩ (k_X10_push 58 (d) isT_58 h13) (show Rn N xs (d + 2) me100 59 [some (.ref 55), some (.int v1)] [] (SH, s14) r from ?_)
        refine Rn_sq srt100 30 1 (pc' := 68) (ls' := [some (.ref 55), some (.int v1)]) (st' := []) (h1 := (SH, s14)) rfl ?_
        exact Rn_weaken (a := [some (.ref 55), none]) (b := [some (.ref 55), some (.int v1)]) (And.intro rfl trivial) rfl (k_X7_readUnit_68 d hJ hC)
theorem k_X7_readUnit {N : Nat} {xs : Nat → Int32} (d : Nat) {s : mG} {τ : (Int32 × mG)} (hJ : F_X7_readUnit s = some τ) : Rn N xs (d + 2) me100 0 [some (.ref 55), none] [] (SH, s) (some (.int τ.1), (SH, τ.2)) := k_X7_readUnit_r d hJ rfl
/-! IsHeIn$Reader.readPart()Z -/
theorem srt101 : m_srt mc101 = true := by decide +kernel
def F_X7_readPart (s : mG) : Option (Int32 × mG) :=
  if (s.1 55 14) = (c8 (-2)) then
    if (s.1 55 15) = 0 then
      b2 (F_X7_refuse (ci 2) s) fun v5 s4 =>
      if v5 = 0 ∨ v5 = 1 then
        some (v5, s4)
      else none
    else
      b1 (F_X10_push 58 ((ci 50000) + (s.1 55 15)) s) fun s8 =>
      b1 (F_X7_stepOn s8) fun s10 =>
      some ((ci 1), s10)
  else
    b2 (F_X7_refuse (ci 1) s) fun v13 s12 =>
    if v13 = 0 ∨ v13 = 1 then
      some (v13, s12)
    else none
set_option maxRecDepth 4000 in
theorem k_X7_readPart_r {N : Nat} {xs : Nat → Int32} (d : Nat) {r : Option Value × mH} {s : mG} {τ : (Int32 × mG)} (hJ : F_X7_readPart s = some τ) (hC : (fun τ => r = (some (.int τ.1), (SH, τ.2))) τ) : Rn N xs (d + 2) me101 0 [some (.ref 55)] [] (SH, s) r := by
  unfold F_X7_readPart at hJ
  refine Rn_sq srt101 0 4 (pc' := (if (s.1 55 14) = (c8 (-2)) then 15 else 9)) (ls' := [some (.ref 55)]) (st' := []) (h1 := (SH, s)) rfl (Rn_if (fun h1 => ?_) (fun h1 => ?_))
  · replace hJ := m_ifp h1 hJ
    refine Rn_sq srt101 8 3 (pc' := (if (s.1 55 15) = 0 then 22 else 28)) (ls' := [some (.ref 55)]) (st' := []) (h1 := (SH, s)) rfl (Rn_if (fun h2 => ?_) (fun h2 => ?_))
    · replace hJ := m_ifp h2 hJ
      refine Rn_sq srt101 11 2 (pc' := 24) (ls' := [some (.ref 55)]) (st' := [(.int (ci 2)), (.ref 55)]) (h1 := (SH, s)) rfl ?_
      obtain ⟨v5, s4, h3, hJ⟩ := m_b2 hJ
      refine Rn_call srt101 13 rfl rfl rfl ⟨Nat.le_of_ble_eq_true rfl, Nat.le_of_ble_eq_true rfl, rfl, Nat.le_of_ble_eq_true rfl⟩ (k_X7_refuse (d + 1) h3) (show Rn N xs (d + 2) me101 27 [some (.ref 55)] [(.int v5)] (SH, s4) r from ?_)
      obtain ⟨h6, hJ⟩ := m_gp hJ
      rw [← Option.some.inj hJ] at hC
      have hC : r = (some (.int v5), (SH, s4)) := hC
      subst hC
      exact Rn_ret srt101 14 rfl rfl (m_ret_b rfl h6)
    · replace hJ := m_ifn h2 hJ
      refine Rn_sq srt101 15 6 (pc' := 39) (ls' := [some (.ref 55)]) (st' := [(.int ((ci 50000) + (s.1 55 15))), (.ref 58)]) (h1 := (SH, s)) rfl ?_
      obtain ⟨s8, h7, hJ⟩ := m_b1 hJ
      refine Rn_call srt101 21 rfl rfl rfl ⟨Nat.le_of_ble_eq_true rfl, Nat.le_of_ble_eq_true rfl, rfl, Nat.le_of_ble_eq_true rfl⟩ (k_X10_push 58 (d) isT_58 h7) (show Rn N xs (d + 2) me101 42 [some (.ref 55)] [] (SH, s8) r from ?_)
      refine Rn_sq srt101 22 1 (pc' := 43) (ls' := [some (.ref 55)]) (st' := [(.ref 55)]) (h1 := (SH, s8)) rfl ?_
      obtain ⟨s10, h9, hJ⟩ := m_b1 hJ
      refine Rn_call srt101 23 rfl rfl rfl ⟨Nat.le_of_ble_eq_true rfl, Nat.le_of_ble_eq_true rfl, rfl, Nat.le_of_ble_eq_true rfl⟩ (k_X7_stepOn (d) h9) (show Rn N xs (d + 2) me101 46 [some (.ref 55)] [] (SH, s10) r from ?_)
      refine Rn_sq srt101 24 1 (pc' := 47) (ls' := [some (.ref 55)]) (st' := [(.int (ci 1))]) (h1 := (SH, s10)) rfl ?_
      rw [← Option.some.inj hJ] at hC
      have hC : r = (some (.int (ci 1)), (SH, s10)) := hC
      subst hC
      exact Rn_ret srt101 25 rfl rfl (m_ret_b rfl (by decide))
  · replace hJ := m_ifn h1 hJ
    refine Rn_sq srt101 4 2 (pc' := 11) (ls' := [some (.ref 55)]) (st' := [(.int (ci 1)), (.ref 55)]) (h1 := (SH, s)) rfl ?_
    obtain ⟨v13, s12, h11, hJ⟩ := m_b2 hJ
    refine Rn_call srt101 6 rfl rfl rfl ⟨Nat.le_of_ble_eq_true rfl, Nat.le_of_ble_eq_true rfl, rfl, Nat.le_of_ble_eq_true rfl⟩ (k_X7_refuse (d + 1) h11) (show Rn N xs (d + 2) me101 14 [some (.ref 55)] [(.int v13)] (SH, s12) r from ?_)
    obtain ⟨h14, hJ⟩ := m_gp hJ
    rw [← Option.some.inj hJ] at hC
    have hC : r = (some (.int v13), (SH, s12)) := hC
    subst hC
    exact Rn_ret srt101 7 rfl rfl (m_ret_b rfl h14)
theorem k_X7_readPart {N : Nat} {xs : Nat → Int32} (d : Nat) {s : mG} {τ : (Int32 × mG)} (hJ : F_X7_readPart s = some τ) : Rn N xs (d + 2) me101 0 [some (.ref 55)] [] (SH, s) (some (.int τ.1), (SH, τ.2)) := k_X7_readPart_r d hJ rfl
/-! IsHeIn$Reader.readSum()Z -/
theorem srt97 : m_srt mc97 = true := by decide +kernel
def C_X7_readSum_13 (N : Nat) (xs : Nat → Int32) (d : Nat) (r : Option Value × mH) (C : (Int32 × mG) → Prop) : ((Int32 × Int32 × mG) ⊕ (Int32 × mG)) → Prop
  | .inl v => Rn N xs (d + 3) me97 13 [some (.ref 55), some (.int v.1), some (.int v.2.1), none] [] (SH, v.2.2) r
  | .inr a => C a
def F_X7_readSum_114 (x1 : Int32) (s : mG) : Option (Int32 × mG) :=
  b1 (F_X7_emitIfAny x1 s) fun s7 =>
  some ((ci 1), s7)
set_option maxRecDepth 4000 in
theorem k_X7_readSum_114 {N : Nat} {xs : Nat → Int32} (d : Nat) {r : Option Value × mH} {s : mG} {x1 : Int32} {τ : (Int32 × mG)} (hJ : F_X7_readSum_114 x1 s = some τ) (hC : (fun τ => r = (some (.int τ.1), (SH, τ.2))) τ) : Rn N xs (d + 3) me97 114 [some (.ref 55), some (.int x1), none, none] [] (SH, s) r := by
  unfold F_X7_readSum_114 at hJ
  refine Rn_sq srt97 59 2 (pc' := 116) (ls' := [some (.ref 55), some (.int x1), none, none]) (st' := [(.int x1), (.ref 55)]) (h1 := (SH, s)) rfl ?_
  obtain ⟨s7, h6, hJ⟩ := m_b1 hJ
  refine Rn_call srt97 61 rfl rfl rfl ⟨Nat.le_of_ble_eq_true rfl, Nat.le_of_ble_eq_true rfl, rfl, Nat.le_of_ble_eq_true rfl⟩ (k_X7_emitIfAny (d) h6) (show Rn N xs (d + 3) me97 119 [some (.ref 55), some (.int x1), none, none] [] (SH, s7) r from ?_)
  refine Rn_sq srt97 62 1 (pc' := 120) (ls' := [some (.ref 55), some (.int x1), none, none]) (st' := [(.int (ci 1))]) (h1 := (SH, s7)) rfl ?_
  rw [← Option.some.inj hJ] at hC
  have hC : r = (some (.int (ci 1)), (SH, s7)) := hC
  subst hC
  exact Rn_ret srt97 63 rfl rfl (m_ret_b rfl (by decide))
def F_X7_readSum_91 (s : mG) : Option (Int32 × mG) :=
  some ((ci 0), s)
set_option maxRecDepth 4000 in
theorem k_X7_readSum_91 {N : Nat} {xs : Nat → Int32} (d : Nat) {r : Option Value × mH} {s : mG} {τ : (Int32 × mG)} (hJ : F_X7_readSum_91 s = some τ) (hC : (fun τ => r = (some (.int τ.1), (SH, τ.2))) τ) : Rn N xs (d + 3) me97 91 [none, none, none, none] [] (SH, s) r := by
  unfold F_X7_readSum_91 at hJ
  refine Rn_sq srt97 47 1 (pc' := 92) (ls' := [none, none, none, none]) (st' := [(.int (ci 0))]) (h1 := (SH, s)) rfl ?_
  rw [← Option.some.inj hJ] at hC
  have hC : r = (some (.int (ci 0)), (SH, s)) := hC
  subst hC
  exact Rn_ret srt97 48 rfl rfl (m_ret_b rfl (by decide))
def F_X7_readSum_105 (x1 : Int32) (x2 : Int32) (y1 : Int32) (s : mG) : Option ((Int32 × Int32 × mG) ⊕ (Int32 × mG)) :=
  b1 (F_X7_emitIfAny y1 s) fun s24 =>
  some (Sum.inl (x1, (x2 + ci 1), s24))
set_option maxRecDepth 4000 in
theorem k_X7_readSum_105 {N : Nat} {xs : Nat → Int32} (d : Nat) {r : Option Value × mH} {s : mG} {x1 : Int32} {x2 : Int32} {y1 : Int32} {τ : ((Int32 × Int32 × mG) ⊕ (Int32 × mG))} (hJ : F_X7_readSum_105 x1 x2 y1 s = some τ) (hC : (C_X7_readSum_13 N xs d r (fun τ => r = (some (.int τ.1), (SH, τ.2)))) τ) : Rn N xs (d + 3) me97 105 [some (.ref 55), some (.int x1), some (.int x2), none] [(.int y1), (.ref 55)] (SH, s) r := by
  unfold F_X7_readSum_105 at hJ
  obtain ⟨s24, h23, hJ⟩ := m_b1 hJ
  refine Rn_call srt97 56 rfl rfl rfl ⟨Nat.le_of_ble_eq_true rfl, Nat.le_of_ble_eq_true rfl, rfl, Nat.le_of_ble_eq_true rfl⟩ (k_X7_emitIfAny (d) h23) (show Rn N xs (d + 3) me97 108 [some (.ref 55), some (.int x1), some (.int x2), none] [] (SH, s24) r from ?_)
  refine Rn_sq srt97 57 2 (pc' := 13) (ls' := [some (.ref 55), some (.int x1), some (.int (x2 + ci 1)), none]) (st' := []) (h1 := (SH, s24)) rfl ?_
  rw [← Option.some.inj hJ] at hC
  exact hC
def F_X7_readSum_93 (x1 : Int32) (x2 : Int32) (x3 : Int32) (s : mG) : Option ((Int32 × Int32 × mG) ⊕ (Int32 × mG)) :=
  if x3 = (c8 42) then
    F_X7_readSum_105 x1 x2 (ci 4) s
  else
    F_X7_readSum_105 x1 x2 (ci (-1)) s
set_option maxRecDepth 4000 in
theorem k_X7_readSum_93 {N : Nat} {xs : Nat → Int32} (d : Nat) {r : Option Value × mH} {s : mG} {x1 : Int32} {x2 : Int32} {x3 : Int32} {τ : ((Int32 × Int32 × mG) ⊕ (Int32 × mG))} (hJ : F_X7_readSum_93 x1 x2 x3 s = some τ) (hC : (C_X7_readSum_13 N xs d r (fun τ => r = (some (.int τ.1), (SH, τ.2)))) τ) : Rn N xs (d + 3) me97 93 [some (.ref 55), some (.int x1), some (.int x2), some (.int x3)] [] (SH, s) r := by
  unfold F_X7_readSum_93 at hJ
  refine Rn_sq srt97 49 4 (pc' := (if x3 = (c8 42) then 100 else 104)) (ls' := [some (.ref 55), some (.int x1), some (.int x2), some (.int x3)]) (st' := [(.ref 55)]) (h1 := (SH, s)) rfl (Rn_if (fun h22 => ?_) (fun h22 => ?_))
  · replace hJ := m_ifp h22 hJ
    refine Rn_sq srt97 53 2 (pc' := 105) (ls' := [some (.ref 55), some (.int x1), some (.int x2), some (.int x3)]) (st' := [(.int (ci 4)), (.ref 55)]) (h1 := (SH, s)) rfl ?_
    exact Rn_weaken (a := [some (.ref 55), some (.int x1), some (.int x2), none]) (b := [some (.ref 55), some (.int x1), some (.int x2), some (.int x3)]) (And.intro rfl (And.intro rfl (And.intro rfl trivial))) rfl (k_X7_readSum_105 d hJ hC)
  · replace hJ := m_ifn h22 hJ
    refine Rn_sq srt97 55 1 (pc' := 105) (ls' := [some (.ref 55), some (.int x1), some (.int x2), some (.int x3)]) (st' := [(.int (ci (-1))), (.ref 55)]) (h1 := (SH, s)) rfl ?_
    exact Rn_weaken (a := [some (.ref 55), some (.int x1), some (.int x2), none]) (b := [some (.ref 55), some (.int x1), some (.int x2), some (.int x3)]) (And.intro rfl (And.intro rfl (And.intro rfl trivial))) rfl (k_X7_readSum_105 d hJ hC)
def F_X7_readSum_68 (x1 : Int32) (x2 : Int32) (x3 : Int32) (s : mG) : Option ((Int32 × Int32 × mG) ⊕ (Int32 × mG)) :=
  if x3 = (c8 47) then
    b2 (F_X7_readPart s) fun v20 s19 =>
    if v20 = 0 then
      b1 (F_X7_readSum_91 s19) fun τ => some (Sum.inr τ)
    else
      F_X7_readSum_93 x1 x2 x3 s19
  else
    b2 (F_X7_readUnit s) fun v27 s26 =>
    if v27 = 0 then
      b1 (F_X7_readSum_91 s26) fun τ => some (Sum.inr τ)
    else
      F_X7_readSum_93 x1 x2 x3 s26
set_option maxRecDepth 4000 in
theorem k_X7_readSum_68 {N : Nat} {xs : Nat → Int32} (d : Nat) {r : Option Value × mH} {s : mG} {x1 : Int32} {x2 : Int32} {x3 : Int32} {τ : ((Int32 × Int32 × mG) ⊕ (Int32 × mG))} (hJ : F_X7_readSum_68 x1 x2 x3 s = some τ) (hC : (C_X7_readSum_13 N xs d r (fun τ => r = (some (.int τ.1), (SH, τ.2)))) τ) : Rn N xs (d + 3) me97 68 [some (.ref 55), some (.int x1), some (.int x2), some (.int x3)] [] (SH, s) r := by
  unfold F_X7_readSum_68 at hJ
  refine Rn_sq srt97 37 3 (pc' := (if x3 = (c8 47) then 74 else 84)) (ls' := [some (.ref 55), some (.int x1), some (.int x2), some (.int x3)]) (st' := []) (h1 := (SH, s)) rfl (Rn_if (fun h17 => ?_) (fun h17 => ?_))
  · replace hJ := m_ifp h17 hJ
    refine Rn_sq srt97 40 1 (pc' := 75) (ls' := [some (.ref 55), some (.int x1), some (.int x2), some (.int x3)]) (st' := [(.ref 55)]) (h1 := (SH, s)) rfl ?_
    obtain ⟨v20, s19, h18, hJ⟩ := m_b2 hJ
    refine Rn_call srt97 41 rfl rfl rfl ⟨Nat.le_of_ble_eq_true rfl, Nat.le_of_ble_eq_true rfl, rfl, Nat.le_of_ble_eq_true rfl⟩ (k_X7_readPart (d) h18) (show Rn N xs (d + 3) me97 78 [some (.ref 55), some (.int x1), some (.int x2), some (.int x3)] [(.int v20)] (SH, s19) r from ?_)
    refine Rn_sq srt97 42 1 (pc' := (if v20 = 0 then 81 else 93)) (ls' := [some (.ref 55), some (.int x1), some (.int x2), some (.int x3)]) (st' := []) (h1 := (SH, s19)) rfl (Rn_if (fun h21 => ?_) (fun h21 => ?_))
    · replace hJ := m_ifp h21 hJ
      refine Rn_sq srt97 43 1 (pc' := 91) (ls' := [some (.ref 55), some (.int x1), some (.int x2), some (.int x3)]) (st' := []) (h1 := (SH, s19)) rfl ?_
      obtain ⟨τ1, hJ1, hJ⟩ := m_b1 hJ
      rw [← Option.some.inj hJ] at hC
      exact Rn_weaken (a := [none, none, none, none]) (b := [some (.ref 55), some (.int x1), some (.int x2), some (.int x3)]) trivial rfl (k_X7_readSum_91 d hJ1 hC)
    · replace hJ := m_ifn h21 hJ
      exact (k_X7_readSum_93 d hJ hC)
  · replace hJ := m_ifn h17 hJ
    refine Rn_sq srt97 44 1 (pc' := 85) (ls' := [some (.ref 55), some (.int x1), some (.int x2), some (.int x3)]) (st' := [(.ref 55)]) (h1 := (SH, s)) rfl ?_
    obtain ⟨v27, s26, h25, hJ⟩ := m_b2 hJ
    refine Rn_call srt97 45 rfl rfl rfl ⟨Nat.le_of_ble_eq_true rfl, Nat.le_of_ble_eq_true rfl, rfl, Nat.le_of_ble_eq_true rfl⟩ (k_X7_readUnit (d) h25) (show Rn N xs (d + 3) me97 88 [some (.ref 55), some (.int x1), some (.int x2), some (.int x3)] [(.int v27)] (SH, s26) r from ?_)
    refine Rn_sq srt97 46 1 (pc' := (if v27 = 0 then 91 else 93)) (ls' := [some (.ref 55), some (.int x1), some (.int x2), some (.int x3)]) (st' := []) (h1 := (SH, s26)) rfl (Rn_if (fun h28 => ?_) (fun h28 => ?_))
    · replace hJ := m_ifp h28 hJ
      obtain ⟨τ1, hJ1, hJ⟩ := m_b1 hJ
      rw [← Option.some.inj hJ] at hC
      exact Rn_weaken (a := [none, none, none, none]) (b := [some (.ref 55), some (.int x1), some (.int x2), some (.int x3)]) trivial rfl (k_X7_readSum_91 d hJ1 hC)
    · replace hJ := m_ifn h28 hJ
      exact (k_X7_readSum_93 d hJ hC)
def F_X7_readSum_67 (x2 : Int32) (x3 : Int32) (y0 : Int32) (s : mG) : Option ((Int32 × Int32 × mG) ⊕ (Int32 × mG)) :=
  F_X7_readSum_68 y0 x2 x3 s
set_option maxRecDepth 4000 in
theorem k_X7_readSum_67 {N : Nat} {xs : Nat → Int32} (d : Nat) {r : Option Value × mH} {s : mG} {x2 : Int32} {x3 : Int32} {y0 : Int32} {τ : ((Int32 × Int32 × mG) ⊕ (Int32 × mG))} (hJ : F_X7_readSum_67 x2 x3 y0 s = some τ) (hC : (C_X7_readSum_13 N xs d r (fun τ => r = (some (.int τ.1), (SH, τ.2)))) τ) : Rn N xs (d + 3) me97 67 [some (.ref 55), none, some (.int x2), some (.int x3)] [(.int y0)] (SH, s) r := by
  unfold F_X7_readSum_67 at hJ
  refine Rn_sq srt97 36 1 (pc' := 68) (ls' := [some (.ref 55), some (.int y0), some (.int x2), some (.int x3)]) (st' := []) (h1 := (SH, s)) rfl ?_
  exact (k_X7_readSum_68 d hJ hC)
def F_X7_readSum_51 (x1 : Int32) (x2 : Int32) (x3 : Int32) (s : mG) : Option ((Int32 × Int32 × mG) ⊕ (Int32 × mG)) :=
  b1 (F_X7_emitIfAny x1 s) fun s15 =>
  if x3 = (c8 43) then
    F_X7_readSum_67 x2 x3 (ci 2) s15
  else
    F_X7_readSum_67 x2 x3 (ci 3) s15
set_option maxRecDepth 4000 in
theorem k_X7_readSum_51 {N : Nat} {xs : Nat → Int32} (d : Nat) {r : Option Value × mH} {s : mG} {x1 : Int32} {x2 : Int32} {x3 : Int32} {τ : ((Int32 × Int32 × mG) ⊕ (Int32 × mG))} (hJ : F_X7_readSum_51 x1 x2 x3 s = some τ) (hC : (C_X7_readSum_13 N xs d r (fun τ => r = (some (.int τ.1), (SH, τ.2)))) τ) : Rn N xs (d + 3) me97 51 [some (.ref 55), some (.int x1), some (.int x2), some (.int x3)] [] (SH, s) r := by
  unfold F_X7_readSum_51 at hJ
  refine Rn_sq srt97 27 2 (pc' := 53) (ls' := [some (.ref 55), some (.int x1), some (.int x2), some (.int x3)]) (st' := [(.int x1), (.ref 55)]) (h1 := (SH, s)) rfl ?_
  obtain ⟨s15, h14, hJ⟩ := m_b1 hJ
  refine Rn_call srt97 29 rfl rfl rfl ⟨Nat.le_of_ble_eq_true rfl, Nat.le_of_ble_eq_true rfl, rfl, Nat.le_of_ble_eq_true rfl⟩ (k_X7_emitIfAny (d) h14) (show Rn N xs (d + 3) me97 56 [some (.ref 55), some (.int x1), some (.int x2), some (.int x3)] [] (SH, s15) r from ?_)
  refine Rn_sq srt97 30 3 (pc' := (if x3 = (c8 43) then 62 else 66)) (ls' := [some (.ref 55), some (.int x1), some (.int x2), some (.int x3)]) (st' := []) (h1 := (SH, s15)) rfl (Rn_if (fun h16 => ?_) (fun h16 => ?_))
  · replace hJ := m_ifp h16 hJ
    refine Rn_sq srt97 33 2 (pc' := 67) (ls' := [some (.ref 55), some (.int x1), some (.int x2), some (.int x3)]) (st' := [(.int (ci 2))]) (h1 := (SH, s15)) rfl ?_
    exact Rn_weaken (a := [some (.ref 55), none, some (.int x2), some (.int x3)]) (b := [some (.ref 55), some (.int x1), some (.int x2), some (.int x3)]) (And.intro rfl (And.intro rfl (And.intro rfl trivial))) rfl (k_X7_readSum_67 d hJ hC)
  · replace hJ := m_ifn h16 hJ
    refine Rn_sq srt97 35 1 (pc' := 67) (ls' := [some (.ref 55), some (.int x1), some (.int x2), some (.int x3)]) (st' := [(.int (ci 3))]) (h1 := (SH, s15)) rfl ?_
    exact Rn_weaken (a := [some (.ref 55), none, some (.int x2), some (.int x3)]) (b := [some (.ref 55), some (.int x1), some (.int x2), some (.int x3)]) (And.intro rfl (And.intro rfl (And.intro rfl trivial))) rfl (k_X7_readSum_67 d hJ hC)
def F_X7_readSum_B13 (x1 : Int32) (x2 : Int32) (s : mG) : Option ((Int32 × Int32 × mG) ⊕ (Int32 × mG)) :=
  if (c16 400) ≤ x2 then
    b1 (F_X7_readSum_114 x1 s) fun τ => some (Sum.inr τ)
  else
    b1 (F_X7_isReckoning s (s.1 55 14)) fun v9 =>
    if v9 = 0 then
      b1 (F_X7_readSum_114 x1 s) fun τ => some (Sum.inr τ)
    else
      b1 (F_X7_stepOn s) fun s12 =>
      if (s.1 55 14) = (c8 43) then
        F_X7_readSum_51 x1 x2 (s.1 55 14) s12
      else
        if (s.1 55 14) = (c8 45) then
          F_X7_readSum_51 x1 x2 (s.1 55 14) s12
        else
          F_X7_readSum_68 x1 x2 (s.1 55 14) s12
set_option maxRecDepth 4000 in
theorem k_X7_readSum_B13 {N : Nat} {xs : Nat → Int32} (d : Nat) {r : Option Value × mH} {s : mG} {x1 : Int32} {x2 : Int32} {τ : ((Int32 × Int32 × mG) ⊕ (Int32 × mG))} (hJ : F_X7_readSum_B13 x1 x2 s = some τ) (hC : (C_X7_readSum_13 N xs d r (fun τ => r = (some (.int τ.1), (SH, τ.2)))) τ) : Rn N xs (d + 3) me97 13 [some (.ref 55), some (.int x1), some (.int x2), none] [] (SH, s) r := by
  unfold F_X7_readSum_B13 at hJ
  refine Rn_sq srt97 9 3 (pc' := (if (c16 400) ≤ x2 then 114 else 20)) (ls' := [some (.ref 55), some (.int x1), some (.int x2), none]) (st' := []) (h1 := (SH, s)) rfl (Rn_if (fun h5 => ?_) (fun h5 => ?_))
  · replace hJ := m_ifp h5 hJ
    obtain ⟨τ1, hJ1, hJ⟩ := m_b1 hJ
    rw [← Option.some.inj hJ] at hC
    exact Rn_weaken (a := [some (.ref 55), some (.int x1), none, none]) (b := [some (.ref 55), some (.int x1), some (.int x2), none]) (And.intro rfl (And.intro rfl trivial)) rfl (k_X7_readSum_114 d hJ1 hC)
  · replace hJ := m_ifn h5 hJ
    refine Rn_sq srt97 12 2 (pc' := 24) (ls' := [some (.ref 55), some (.int x1), some (.int x2), none]) (st' := [(.int (s.1 55 14))]) (h1 := (SH, s)) rfl ?_
    obtain ⟨v9, h8, hJ⟩ := m_b1 hJ
    refine Rn_call srt97 14 rfl rfl rfl ⟨Nat.le_of_ble_eq_true rfl, Nat.le_of_ble_eq_true rfl, rfl, Nat.le_of_ble_eq_true rfl⟩ (k_X7_isReckoning (d + 2) h8) (show Rn N xs (d + 3) me97 27 [some (.ref 55), some (.int x1), some (.int x2), none] [(.int v9)] (SH, s) r from ?_)
    refine Rn_sq srt97 15 1 (pc' := (if v9 = 0 then 114 else 30)) (ls' := [some (.ref 55), some (.int x1), some (.int x2), none]) (st' := []) (h1 := (SH, s)) rfl (Rn_if (fun h10 => ?_) (fun h10 => ?_))
    · replace hJ := m_ifp h10 hJ
      obtain ⟨τ1, hJ1, hJ⟩ := m_b1 hJ
      rw [← Option.some.inj hJ] at hC
      exact Rn_weaken (a := [some (.ref 55), some (.int x1), none, none]) (b := [some (.ref 55), some (.int x1), some (.int x2), none]) (And.intro rfl (And.intro rfl trivial)) rfl (k_X7_readSum_114 d hJ1 hC)
    · replace hJ := m_ifn h10 hJ
      refine Rn_sq srt97 16 4 (pc' := 36) (ls' := [some (.ref 55), some (.int x1), some (.int x2), some (.int (s.1 55 14))]) (st' := [(.ref 55)]) (h1 := (SH, s)) rfl ?_
      obtain ⟨s12, h11, hJ⟩ := m_b1 hJ
      refine Rn_call srt97 20 rfl rfl rfl ⟨Nat.le_of_ble_eq_true rfl, Nat.le_of_ble_eq_true rfl, rfl, Nat.le_of_ble_eq_true rfl⟩ (k_X7_stepOn (d + 1) h11) (show Rn N xs (d + 3) me97 39 [some (.ref 55), some (.int x1), some (.int x2), some (.int (s.1 55 14))] [] (SH, s12) r from ?_)
      refine Rn_sq srt97 21 3 (pc' := (if (s.1 55 14) = (c8 43) then 51 else 45)) (ls' := [some (.ref 55), some (.int x1), some (.int x2), some (.int (s.1 55 14))]) (st' := []) (h1 := (SH, s12)) rfl (Rn_if (fun h13 => ?_) (fun h13 => ?_))
      · replace hJ := m_ifp h13 hJ
        exact (k_X7_readSum_51 d hJ hC)
      · replace hJ := m_ifn h13 hJ
        refine Rn_sq srt97 24 3 (pc' := (if (s.1 55 14) = (c8 45) then 51 else 68)) (ls' := [some (.ref 55), some (.int x1), some (.int x2), some (.int (s.1 55 14))]) (st' := []) (h1 := (SH, s12)) rfl (Rn_if (fun h29 => ?_) (fun h29 => ?_))
        · replace hJ := m_ifp h29 hJ
          exact (k_X7_readSum_51 d hJ hC)
        · replace hJ := m_ifn h29 hJ
          exact (k_X7_readSum_68 d hJ hC)
def F_X7_readSum_L13 (x1 : Int32) (x2 : Int32) (s : mG) : Option (Int32 × mG) := whl (fun (v : (Int32 × Int32 × mG)) => F_X7_readSum_B13 v.1 v.2.1 v.2.2) (x1, x2, s)
theorem k_X7_readSum_L13 {N : Nat} {xs : Nat → Int32} (d : Nat) {r : Option Value × mH} {s : mG} {x1 : Int32} {x2 : Int32} {τ : (Int32 × mG)} (hJ : F_X7_readSum_L13 x1 x2 s = some τ) (hC : (fun τ => r = (some (.int τ.1), (SH, τ.2))) τ) : Rn N xs (d + 3) me97 13 [some (.ref 55), some (.int x1), some (.int x2), none] [] (SH, s) r :=
  whl_link (P := fun (v : (Int32 × Int32 × mG)) => Rn N xs (d + 3) me97 13 [some (.ref 55), some (.int v.1), some (.int v.2.1), none] [] (SH, v.2.2) r) (C := (C_X7_readSum_13 N xs d r (fun τ => r = (some (.int τ.1), (SH, τ.2))))) (fun v τ h1 h2 => k_X7_readSum_B13 d h1 h2) (fun _ h => h) (fun _ h => h) _ _ hJ hC
def F_X7_readSum (s : mG) : Option (Int32 × mG) :=
  b2 (F_X7_readUnit s) fun v3 s2 =>
  if v3 = 0 then
    some ((ci 0), s2)
  else
    F_X7_readSum_L13 (ci (-1)) (ci 0) s2
set_option maxRecDepth 4000 in
theorem k_X7_readSum_r {N : Nat} {xs : Nat → Int32} (d : Nat) {r : Option Value × mH} {s : mG} {τ : (Int32 × mG)} (hJ : F_X7_readSum s = some τ) (hC : (fun τ => r = (some (.int τ.1), (SH, τ.2))) τ) : Rn N xs (d + 3) me97 0 [some (.ref 55), none, none, none] [] (SH, s) r := by
  unfold F_X7_readSum at hJ
  refine Rn_sq srt97 0 1 (pc' := 1) (ls' := [some (.ref 55), none, none, none]) (st' := [(.ref 55)]) (h1 := (SH, s)) rfl ?_
  obtain ⟨v3, s2, h1, hJ⟩ := m_b2 hJ
  refine Rn_call srt97 1 rfl rfl rfl ⟨Nat.le_of_ble_eq_true rfl, Nat.le_of_ble_eq_true rfl, rfl, Nat.le_of_ble_eq_true rfl⟩ (k_X7_readUnit (d) h1) (show Rn N xs (d + 3) me97 4 [some (.ref 55), none, none, none] [(.int v3)] (SH, s2) r from ?_)
  refine Rn_sq srt97 2 1 (pc' := (if v3 = 0 then 7 else 9)) (ls' := [some (.ref 55), none, none, none]) (st' := []) (h1 := (SH, s2)) rfl (Rn_if (fun h4 => ?_) (fun h4 => ?_))
  · replace hJ := m_ifp h4 hJ
    refine Rn_sq srt97 3 1 (pc' := 8) (ls' := [some (.ref 55), none, none, none]) (st' := [(.int (ci 0))]) (h1 := (SH, s2)) rfl ?_
    rw [← Option.some.inj hJ] at hC
    have hC : r = (some (.int (ci 0)), (SH, s2)) := hC
    subst hC
    exact Rn_ret srt97 4 rfl rfl (m_ret_b rfl (by decide))
  · replace hJ := m_ifn h4 hJ
    refine Rn_sq srt97 5 4 (pc' := 13) (ls' := [some (.ref 55), some (.int (ci (-1))), some (.int (ci 0)), none]) (st' := []) (h1 := (SH, s2)) rfl ?_
    exact (k_X7_readSum_L13 d hJ hC)
theorem k_X7_readSum {N : Nat} {xs : Nat → Int32} (d : Nat) {s : mG} {τ : (Int32 × mG)} (hJ : F_X7_readSum s = some τ) : Rn N xs (d + 3) me97 0 [some (.ref 55), none, none, none] [] (SH, s) (some (.int τ.1), (SH, τ.2)) := k_X7_readSum_r d hJ rfl
/-! IsHeIn$Reader.hold(I)V -/
theorem srt103 : m_srt mc103 = true := by decide +kernel
def F_X7_hold (a1 : Int32) (s : mG) : Option (mG) :=
  b1 (F_X11_put 67 (s.1 55 7) a1 s) fun s2 =>
  let s3 : mG := (mu s2.1 55 7 ((s2.1 55 7) + (ci 1)), s2.2)
  some s3
set_option maxRecDepth 4000 in
theorem k_X7_hold_r {N : Nat} {xs : Nat → Int32} (d : Nat) {r : Option Value × mH} {s : mG} {a1 : Int32} {τ : (mG)} (hJ : F_X7_hold a1 s = some τ) (hC : (fun τ => r = (none, (SH, τ))) τ) : Rn N xs (d + 1) me103 0 [some (.ref 55), some (.int a1)] [] (SH, s) r := by
  unfold F_X7_hold at hJ
  refine Rn_sq srt103 0 5 (pc' := 9) (ls' := [some (.ref 55), some (.int a1)]) (st' := [(.int a1), (.int (s.1 55 7)), (.ref 67)]) (h1 := (SH, s)) rfl ?_
  obtain ⟨s2, h1, hJ⟩ := m_b1 hJ
  refine Rn_call srt103 5 rfl rfl rfl ⟨Nat.le_of_ble_eq_true rfl, Nat.le_of_ble_eq_true rfl, rfl, Nat.le_of_ble_eq_true rfl⟩ (k_X11_put 67 (d) h1) (show Rn N xs (d + 1) me103 12 [some (.ref 55), some (.int a1)] [] (SH, s2) r from ?_)
  extract_lets +onlyGivenNames s3 at hJ
  refine Rn_sq srt103 6 6 (pc' := 22) (ls' := [some (.ref 55), some (.int a1)]) (st' := []) (h1 := (SH, s3)) rfl ?_
  rw [← Option.some.inj hJ] at hC
  have hC : r = (none, (SH, s3)) := hC
  subst hC
  exact Rn_ret srt103 12 rfl rfl rfl
theorem k_X7_hold {N : Nat} {xs : Nat → Int32} (d : Nat) {s : mG} {a1 : Int32} {τ : (mG)} (hJ : F_X7_hold a1 s = some τ) : Rn N xs (d + 1) me103 0 [some (.ref 55), some (.int a1)] [] (SH, s) (none, (SH, τ)) := k_X7_hold_r d hJ rfl
/-! IsHeIn$Reader.readOpenings()Z -/
theorem srt105 : m_srt mc105 = true := by decide +kernel
def C_X7_readOpenings_2 (N : Nat) (xs : Nat → Int32) (d : Nat) (r : Option Value × mH) (C : (Int32 × mG) → Prop) : ((Int32 × mG) ⊕ (Int32 × mG)) → Prop
  | .inl v => Rn N xs (d + 2) me105 2 [some (.ref 55), some (.int v.1)] [] (SH, v.2) r
  | .inr a => C a
def F_X7_readOpenings_71 (s : mG) : Option (Int32 × mG) :=
  some ((ci 1), s)
set_option maxRecDepth 4000 in
theorem k_X7_readOpenings_71 {N : Nat} {xs : Nat → Int32} (d : Nat) {r : Option Value × mH} {s : mG} {τ : (Int32 × mG)} (hJ : F_X7_readOpenings_71 s = some τ) (hC : (fun τ => r = (some (.int τ.1), (SH, τ.2))) τ) : Rn N xs (d + 2) me105 71 [none, none] [] (SH, s) r := by
  unfold F_X7_readOpenings_71 at hJ
  refine Rn_sq srt105 35 1 (pc' := 72) (ls' := [none, none]) (st' := [(.int (ci 1))]) (h1 := (SH, s)) rfl ?_
  rw [← Option.some.inj hJ] at hC
  have hC : r = (some (.int (ci 1)), (SH, s)) := hC
  subst hC
  exact Rn_ret srt105 36 rfl rfl (m_ret_b rfl (by decide))
def F_X7_readOpenings_28 (x1 : Int32) (s : mG) : Option ((Int32 × mG) ⊕ (Int32 × mG)) :=
  if (s.1 55 8) < (c8 8) then
    b1 (F_X7_hold (s.1 55 14) s) fun s5 =>
    let s6 : mG := (mu s5.1 55 8 ((s5.1 55 8) + (ci 1)), s5.2)
    b1 (F_X7_stepOn s6) fun s8 =>
    some (Sum.inl ((x1 + ci 1), s8))
  else
    b2 (F_X7_refuse (ci 3) s) fun v11 s10 =>
    if v11 = 0 ∨ v11 = 1 then
      some (Sum.inr (v11, s10))
    else none
set_option maxRecDepth 4000 in
theorem k_X7_readOpenings_28 {N : Nat} {xs : Nat → Int32} (d : Nat) {r : Option Value × mH} {s : mG} {x1 : Int32} {τ : ((Int32 × mG) ⊕ (Int32 × mG))} (hJ : F_X7_readOpenings_28 x1 s = some τ) (hC : (C_X7_readOpenings_2 N xs d r (fun τ => r = (some (.int τ.1), (SH, τ.2)))) τ) : Rn N xs (d + 2) me105 28 [some (.ref 55), some (.int x1)] [] (SH, s) r := by
  unfold F_X7_readOpenings_28 at hJ
  refine Rn_sq srt105 13 4 (pc' := (if (s.1 55 8) < (c8 8) then 43 else 37)) (ls' := [some (.ref 55), some (.int x1)]) (st' := []) (h1 := (SH, s)) rfl (Rn_if (fun h3 => ?_) (fun h3 => ?_))
  · replace hJ := m_ifp h3 hJ
    refine Rn_sq srt105 21 3 (pc' := 48) (ls' := [some (.ref 55), some (.int x1)]) (st' := [(.int (s.1 55 14)), (.ref 55)]) (h1 := (SH, s)) rfl ?_
    obtain ⟨s5, h4, hJ⟩ := m_b1 hJ
    refine Rn_call srt105 24 rfl rfl rfl ⟨Nat.le_of_ble_eq_true rfl, Nat.le_of_ble_eq_true rfl, rfl, Nat.le_of_ble_eq_true rfl⟩ (k_X7_hold (d) h4) (show Rn N xs (d + 2) me105 51 [some (.ref 55), some (.int x1)] [] (SH, s5) r from ?_)
    extract_lets +onlyGivenNames s6 at hJ
    refine Rn_sq srt105 25 7 (pc' := 62) (ls' := [some (.ref 55), some (.int x1)]) (st' := [(.ref 55)]) (h1 := (SH, s6)) rfl ?_
    obtain ⟨s8, h7, hJ⟩ := m_b1 hJ
    refine Rn_call srt105 32 rfl rfl rfl ⟨Nat.le_of_ble_eq_true rfl, Nat.le_of_ble_eq_true rfl, rfl, Nat.le_of_ble_eq_true rfl⟩ (k_X7_stepOn (d) h7) (show Rn N xs (d + 2) me105 65 [some (.ref 55), some (.int x1)] [] (SH, s8) r from ?_)
    refine Rn_sq srt105 33 2 (pc' := 2) (ls' := [some (.ref 55), some (.int (x1 + ci 1))]) (st' := []) (h1 := (SH, s8)) rfl ?_
    rw [← Option.some.inj hJ] at hC
    exact hC
  · replace hJ := m_ifn h3 hJ
    refine Rn_sq srt105 17 2 (pc' := 39) (ls' := [some (.ref 55), some (.int x1)]) (st' := [(.int (ci 3)), (.ref 55)]) (h1 := (SH, s)) rfl ?_
    obtain ⟨v11, s10, h9, hJ⟩ := m_b2 hJ
    refine Rn_call srt105 19 rfl rfl rfl ⟨Nat.le_of_ble_eq_true rfl, Nat.le_of_ble_eq_true rfl, rfl, Nat.le_of_ble_eq_true rfl⟩ (k_X7_refuse (d + 1) h9) (show Rn N xs (d + 2) me105 42 [some (.ref 55), some (.int x1)] [(.int v11)] (SH, s10) r from ?_)
    obtain ⟨h12, hJ⟩ := m_gp hJ
    rw [← Option.some.inj hJ] at hC
    have hC : r = (some (.int v11), (SH, s10)) := hC
    subst hC
    exact Rn_ret srt105 20 rfl rfl (m_ret_b rfl h12)
def F_X7_readOpenings_B2 (x1 : Int32) (s : mG) : Option ((Int32 × mG) ⊕ (Int32 × mG)) :=
  if (c16 400) ≤ x1 then
    b1 (F_X7_readOpenings_71 s) fun τ => some (Sum.inr τ)
  else
    if (s.1 55 14) = (c8 40) then
      F_X7_readOpenings_28 x1 s
    else
      if (s.1 55 14) = (c16 274) then
        F_X7_readOpenings_28 x1 s
      else
        b1 (F_X7_readOpenings_71 s) fun τ => some (Sum.inr τ)
set_option maxRecDepth 4000 in
theorem k_X7_readOpenings_B2 {N : Nat} {xs : Nat → Int32} (d : Nat) {r : Option Value × mH} {s : mG} {x1 : Int32} {τ : ((Int32 × mG) ⊕ (Int32 × mG))} (hJ : F_X7_readOpenings_B2 x1 s = some τ) (hC : (C_X7_readOpenings_2 N xs d r (fun τ => r = (some (.int τ.1), (SH, τ.2)))) τ) : Rn N xs (d + 2) me105 2 [some (.ref 55), some (.int x1)] [] (SH, s) r := by
  unfold F_X7_readOpenings_B2 at hJ
  refine Rn_sq srt105 2 3 (pc' := (if (c16 400) ≤ x1 then 71 else 9)) (ls' := [some (.ref 55), some (.int x1)]) (st' := []) (h1 := (SH, s)) rfl (Rn_if (fun h1 => ?_) (fun h1 => ?_))
  · replace hJ := m_ifp h1 hJ
    obtain ⟨τ1, hJ1, hJ⟩ := m_b1 hJ
    rw [← Option.some.inj hJ] at hC
    exact Rn_weaken (a := [none, none]) (b := [some (.ref 55), some (.int x1)]) trivial rfl (k_X7_readOpenings_71 d hJ1 hC)
  · replace hJ := m_ifn h1 hJ
    refine Rn_sq srt105 5 4 (pc' := (if (s.1 55 14) = (c8 40) then 28 else 18)) (ls' := [some (.ref 55), some (.int x1)]) (st' := []) (h1 := (SH, s)) rfl (Rn_if (fun h2 => ?_) (fun h2 => ?_))
    · replace hJ := m_ifp h2 hJ
      exact (k_X7_readOpenings_28 d hJ hC)
    · replace hJ := m_ifn h2 hJ
      refine Rn_sq srt105 9 4 (pc' := (if (s.1 55 14) = (c16 274) then 28 else 71)) (ls' := [some (.ref 55), some (.int x1)]) (st' := []) (h1 := (SH, s)) rfl (Rn_if (fun h13 => ?_) (fun h13 => ?_))
      · replace hJ := m_ifp h13 hJ
        exact (k_X7_readOpenings_28 d hJ hC)
      · replace hJ := m_ifn h13 hJ
        obtain ⟨τ1, hJ1, hJ⟩ := m_b1 hJ
        rw [← Option.some.inj hJ] at hC
        exact Rn_weaken (a := [none, none]) (b := [some (.ref 55), some (.int x1)]) trivial rfl (k_X7_readOpenings_71 d hJ1 hC)
def F_X7_readOpenings_L2 (x1 : Int32) (s : mG) : Option (Int32 × mG) := whl (fun (v : (Int32 × mG)) => F_X7_readOpenings_B2 v.1 v.2) (x1, s)
theorem k_X7_readOpenings_L2 {N : Nat} {xs : Nat → Int32} (d : Nat) {r : Option Value × mH} {s : mG} {x1 : Int32} {τ : (Int32 × mG)} (hJ : F_X7_readOpenings_L2 x1 s = some τ) (hC : (fun τ => r = (some (.int τ.1), (SH, τ.2))) τ) : Rn N xs (d + 2) me105 2 [some (.ref 55), some (.int x1)] [] (SH, s) r :=
  whl_link (P := fun (v : (Int32 × mG)) => Rn N xs (d + 2) me105 2 [some (.ref 55), some (.int v.1)] [] (SH, v.2) r) (C := (C_X7_readOpenings_2 N xs d r (fun τ => r = (some (.int τ.1), (SH, τ.2))))) (fun v τ h1 h2 => k_X7_readOpenings_B2 d h1 h2) (fun _ h => h) (fun _ h => h) _ _ hJ hC
def F_X7_readOpenings (s : mG) : Option (Int32 × mG) :=
  F_X7_readOpenings_L2 (ci 0) s
set_option maxRecDepth 4000 in
theorem k_X7_readOpenings_r {N : Nat} {xs : Nat → Int32} (d : Nat) {r : Option Value × mH} {s : mG} {τ : (Int32 × mG)} (hJ : F_X7_readOpenings s = some τ) (hC : (fun τ => r = (some (.int τ.1), (SH, τ.2))) τ) : Rn N xs (d + 2) me105 0 [some (.ref 55), none] [] (SH, s) r := by
  unfold F_X7_readOpenings at hJ
  refine Rn_sq srt105 0 2 (pc' := 2) (ls' := [some (.ref 55), some (.int (ci 0))]) (st' := []) (h1 := (SH, s)) rfl ?_
  exact (k_X7_readOpenings_L2 d hJ hC)
theorem k_X7_readOpenings {N : Nat} {xs : Nat → Int32} (d : Nat) {s : mG} {τ : (Int32 × mG)} (hJ : F_X7_readOpenings s = some τ) : Rn N xs (d + 2) me105 0 [some (.ref 55), none] [] (SH, s) (some (.int τ.1), (SH, τ.2)) := k_X7_readOpenings_r d hJ rfl
/-! IsHeIn$Reader.stepOfComparison()I -/
theorem srt106 : m_srt mc106 = true := by decide +kernel
def F_X7_stepOfComparison (s : mG) : Option (Int32) :=
  if (s.1 55 14) = ci 60 then
    some (c8 6)
  else
  if (s.1 55 14) = ci 61 then
    some (c8 7)
  else
  if (s.1 55 14) = ci 62 then
    some (c8 8)
  else
  some (ci (-1))
set_option maxRecDepth 4000 in
theorem k_X7_stepOfComparison_r {N : Nat} {xs : Nat → Int32} (d : Nat) {r : Option Value × mH} {s : mG} {τ : (Int32)} (hJ : F_X7_stepOfComparison s = some τ) (hC : (fun τ => r = (some (.int τ), (SH, s))) τ) : Rn N xs (d + 0) me106 0 [some (.ref 55)] [] (SH, s) r := by
  unfold F_X7_stepOfComparison at hJ
  refine Rn_sq srt106 0 2 (pc' := 4) (ls' := [some (.ref 55)]) (st' := [(.int (s.1 55 14))]) (h1 := (SH, s)) rfl ?_
  by_cases h1 : (s.1 55 14) = ci 60
  · replace hJ := m_ifp h1 hJ
    refine Rn_ev srt106 2 rfl rfl rfl (op_sw h1 (show _ = some (32, _) from rfl)) ?_
    refine Rn_sq srt106 3 1 (pc' := 34) (ls' := [some (.ref 55)]) (st' := [(.int (c8 6))]) (h1 := (SH, s)) rfl ?_
    rw [← Option.some.inj hJ] at hC
    have hC : r = (some (.int (c8 6)), (SH, s)) := hC
    subst hC
    exact Rn_ret srt106 4 rfl rfl rfl
  replace hJ := m_ifn h1 hJ
  by_cases h2 : (s.1 55 14) = ci 61
  · replace hJ := m_ifp h2 hJ
    refine Rn_ev srt106 2 rfl rfl rfl (op_sw h2 (show _ = some (35, _) from rfl)) ?_
    refine Rn_sq srt106 5 1 (pc' := 37) (ls' := [some (.ref 55)]) (st' := [(.int (c8 7))]) (h1 := (SH, s)) rfl ?_
    rw [← Option.some.inj hJ] at hC
    have hC : r = (some (.int (c8 7)), (SH, s)) := hC
    subst hC
    exact Rn_ret srt106 6 rfl rfl rfl
  replace hJ := m_ifn h2 hJ
  by_cases h3 : (s.1 55 14) = ci 62
  · replace hJ := m_ifp h3 hJ
    refine Rn_ev srt106 2 rfl rfl rfl (op_sw h3 (show _ = some (38, _) from rfl)) ?_
    refine Rn_sq srt106 7 1 (pc' := 40) (ls' := [some (.ref 55)]) (st' := [(.int (c8 8))]) (h1 := (SH, s)) rfl ?_
    rw [← Option.some.inj hJ] at hC
    have hC : r = (some (.int (c8 8)), (SH, s)) := hC
    subst hC
    exact Rn_ret srt106 8 rfl rfl rfl
  replace hJ := m_ifn h3 hJ
  refine Rn_ev srt106 2 rfl rfl rfl (op_swd (tg := 41) (sw_out (by decide) (by decide) (by intro v hv1 hv2; rcases (show v = 60 ∨ v = 61 ∨ v = 62 by omega) with rfl | rfl | rfl <;> assumption)) rfl) ?_
  refine Rn_sq srt106 9 1 (pc' := 42) (ls' := [some (.ref 55)]) (st' := [(.int (ci (-1)))]) (h1 := (SH, s)) rfl ?_
  rw [← Option.some.inj hJ] at hC
  have hC : r = (some (.int (ci (-1))), (SH, s)) := hC
  subst hC
  exact Rn_ret srt106 10 rfl rfl rfl
theorem k_X7_stepOfComparison {N : Nat} {xs : Nat → Int32} (d : Nat) {s : mG} {τ : (Int32)} (hJ : F_X7_stepOfComparison s = some τ) : Rn N xs (d + 0) me106 0 [some (.ref 55)] [] (SH, s) (some (.int τ), (SH, s)) := k_X7_stepOfComparison_r d hJ rfl
/-! IsHeIn$Reader.lastWaiting()I -/
theorem srt104 : m_srt mc104 = true := by decide +kernel
def F_X7_lastWaiting (s : mG) : Option (Int32) :=
  if (s.1 55 7) ≤ 0 then
    some (ci (-1))
  else
    b1 (F_X11_cell 67 s ((s.1 55 7) - (ci 1))) fun v3 =>
    some v3
set_option maxRecDepth 4000 in
theorem k_X7_lastWaiting_r {N : Nat} {xs : Nat → Int32} (d : Nat) {r : Option Value × mH} {s : mG} {τ : (Int32)} (hJ : F_X7_lastWaiting s = some τ) (hC : (fun τ => r = (some (.int τ), (SH, s))) τ) : Rn N xs (d + 1) me104 0 [some (.ref 55)] [] (SH, s) r := by
  unfold F_X7_lastWaiting at hJ
  refine Rn_sq srt104 0 3 (pc' := (if (s.1 55 7) ≤ 0 then 23 else 7)) (ls' := [some (.ref 55)]) (st' := []) (h1 := (SH, s)) rfl (Rn_if (fun h1 => ?_) (fun h1 => ?_))
  · replace hJ := m_ifp h1 hJ
    refine Rn_sq srt104 11 1 (pc' := 24) (ls' := [some (.ref 55)]) (st' := [(.int (ci (-1)))]) (h1 := (SH, s)) rfl ?_
    rw [← Option.some.inj hJ] at hC
    have hC : r = (some (.int (ci (-1))), (SH, s)) := hC
    subst hC
    exact Rn_ret srt104 12 rfl rfl rfl
  · replace hJ := m_ifn h1 hJ
    refine Rn_sq srt104 3 6 (pc' := 17) (ls' := [some (.ref 55)]) (st' := [(.int ((s.1 55 7) - (ci 1))), (.ref 67)]) (h1 := (SH, s)) rfl ?_
    obtain ⟨v3, h2, hJ⟩ := m_b1 hJ
    refine Rn_call srt104 9 rfl rfl rfl ⟨Nat.le_of_ble_eq_true rfl, Nat.le_of_ble_eq_true rfl, rfl, Nat.le_of_ble_eq_true rfl⟩ (k_X11_cell 67 (d) h2) (show Rn N xs (d + 1) me104 20 [some (.ref 55)] [(.int v3)] (SH, s) r from ?_)
    refine Rn_sq srt104 10 1 (pc' := 24) (ls' := [some (.ref 55)]) (st' := [(.int v3)]) (h1 := (SH, s)) rfl ?_
    rw [← Option.some.inj hJ] at hC
    have hC : r = (some (.int v3), (SH, s)) := hC
    subst hC
    exact Rn_ret srt104 12 rfl rfl rfl
theorem k_X7_lastWaiting {N : Nat} {xs : Nat → Int32} (d : Nat) {s : mG} {τ : (Int32)} (hJ : F_X7_lastWaiting s = some τ) : Rn N xs (d + 1) me104 0 [some (.ref 55)] [] (SH, s) (some (.int τ), (SH, s)) := k_X7_lastWaiting_r d hJ rfl
/-! IsHeIn$Reader.closeNots()V -/
theorem srt108 : m_srt mc108 = true := by decide +kernel
def C_X7_closeNots_2 (N : Nat) (xs : Nat → Int32) (d : Nat) (r : Option Value × mH) (C : (mG) → Prop) : ((Int32 × mG) ⊕ (mG)) → Prop
  | .inl v => Rn N xs (d + 2) me108 2 [some (.ref 55), some (.int v.1)] [] (SH, v.2) r
  | .inr a => C a
def F_X7_closeNots_B2 (x1 : Int32) (s : mG) : Option ((Int32 × mG) ⊕ (mG)) :=
  if (c8 8) ≤ x1 then
    some (Sum.inr s)
  else
    b1 (F_X7_lastWaiting s) fun v3 =>
    if v3 = (c16 274) then
      b1 (F_X10_push 58 (ci 90000) s) fun s6 =>
      let s7 : mG := (mu s6.1 55 7 ((s6.1 55 7) - (ci 1)), s6.2)
      let s8 : mG := (mu s7.1 55 8 ((s7.1 55 8) - (ci 1)), s7.2)
      some (Sum.inl ((x1 + ci 1), s8))
    else
      some (Sum.inr s)
set_option maxRecDepth 4000 in
theorem k_X7_closeNots_B2 {N : Nat} {xs : Nat → Int32} (d : Nat) {r : Option Value × mH} {s : mG} {x1 : Int32} {τ : ((Int32 × mG) ⊕ (mG))} (hJ : F_X7_closeNots_B2 x1 s = some τ) (hC : (C_X7_closeNots_2 N xs d r (fun τ => r = (none, (SH, τ)))) τ) : Rn N xs (d + 2) me108 2 [some (.ref 55), some (.int x1)] [] (SH, s) r := by
  unfold F_X7_closeNots_B2 at hJ
  refine Rn_sq srt108 2 3 (pc' := (if (c8 8) ≤ x1 then 53 else 8)) (ls' := [some (.ref 55), some (.int x1)]) (st' := []) (h1 := (SH, s)) rfl (Rn_if (fun h1 => ?_) (fun h1 => ?_))
  · replace hJ := m_ifp h1 hJ
    rw [← Option.some.inj hJ] at hC
    have hC : r = (none, (SH, s)) := hC
    subst hC
    exact Rn_ret srt108 27 rfl rfl rfl
  · replace hJ := m_ifn h1 hJ
    refine Rn_sq srt108 5 1 (pc' := 9) (ls' := [some (.ref 55), some (.int x1)]) (st' := [(.ref 55)]) (h1 := (SH, s)) rfl ?_
    obtain ⟨v3, h2, hJ⟩ := m_b1 hJ
    refine Rn_call srt108 6 rfl rfl rfl ⟨Nat.le_of_ble_eq_true rfl, Nat.le_of_ble_eq_true rfl, rfl, Nat.le_of_ble_eq_true rfl⟩ (k_X7_lastWaiting (d) h2) (show Rn N xs (d + 2) me108 12 [some (.ref 55), some (.int x1)] [(.int v3)] (SH, s) r from ?_)
    refine Rn_sq srt108 7 2 (pc' := (if v3 = (c16 274) then 18 else 53)) (ls' := [some (.ref 55), some (.int x1)]) (st' := []) (h1 := (SH, s)) rfl (Rn_if (fun h4 => ?_) (fun h4 => ?_))
    · replace hJ := m_ifp h4 hJ
      refine Rn_sq srt108 9 3 (pc' := 24) (ls' := [some (.ref 55), some (.int x1)]) (st' := [(.int (ci 90000)), (.ref 58)]) (h1 := (SH, s)) rfl ?_
      obtain ⟨s6, h5, hJ⟩ := m_b1 hJ
      refine Rn_call srt108 12 rfl rfl rfl ⟨Nat.le_of_ble_eq_true rfl, Nat.le_of_ble_eq_true rfl, rfl, Nat.le_of_ble_eq_true rfl⟩ (k_X10_push 58 (d) isT_58 h5) (show Rn N xs (d + 2) me108 27 [some (.ref 55), some (.int x1)] [] (SH, s6) r from ?_)
      extract_lets +onlyGivenNames s7 at hJ
      extract_lets +onlyGivenNames s8 at hJ
      refine Rn_sq srt108 13 14 (pc' := 2) (ls' := [some (.ref 55), some (.int (x1 + ci 1))]) (st' := []) (h1 := (SH, s8)) rfl ?_
      rw [← Option.some.inj hJ] at hC
      exact hC
    · replace hJ := m_ifn h4 hJ
      rw [← Option.some.inj hJ] at hC
      have hC : r = (none, (SH, s)) := hC
      subst hC
      exact Rn_ret srt108 27 rfl rfl rfl
def F_X7_closeNots_L2 (x1 : Int32) (s : mG) : Option (mG) := whl (fun (v : (Int32 × mG)) => F_X7_closeNots_B2 v.1 v.2) (x1, s)
theorem k_X7_closeNots_L2 {N : Nat} {xs : Nat → Int32} (d : Nat) {r : Option Value × mH} {s : mG} {x1 : Int32} {τ : (mG)} (hJ : F_X7_closeNots_L2 x1 s = some τ) (hC : (fun τ => r = (none, (SH, τ))) τ) : Rn N xs (d + 2) me108 2 [some (.ref 55), some (.int x1)] [] (SH, s) r :=
  whl_link (P := fun (v : (Int32 × mG)) => Rn N xs (d + 2) me108 2 [some (.ref 55), some (.int v.1)] [] (SH, v.2) r) (C := (C_X7_closeNots_2 N xs d r (fun τ => r = (none, (SH, τ))))) (fun v τ h1 h2 => k_X7_closeNots_B2 d h1 h2) (fun _ h => h) (fun _ h => h) _ _ hJ hC
def F_X7_closeNots (s : mG) : Option (mG) :=
  F_X7_closeNots_L2 (ci 0) s
set_option maxRecDepth 4000 in
theorem k_X7_closeNots_r {N : Nat} {xs : Nat → Int32} (d : Nat) {r : Option Value × mH} {s : mG} {τ : (mG)} (hJ : F_X7_closeNots s = some τ) (hC : (fun τ => r = (none, (SH, τ))) τ) : Rn N xs (d + 2) me108 0 [some (.ref 55), none] [] (SH, s) r := by
  unfold F_X7_closeNots at hJ
  refine Rn_sq srt108 0 2 (pc' := 2) (ls' := [some (.ref 55), some (.int (ci 0))]) (st' := []) (h1 := (SH, s)) rfl ?_
  exact (k_X7_closeNots_L2 d hJ hC)
theorem k_X7_closeNots {N : Nat} {xs : Nat → Int32} (d : Nat) {s : mG} {τ : (mG)} (hJ : F_X7_closeNots s = some τ) : Rn N xs (d + 2) me108 0 [some (.ref 55), none] [] (SH, s) (none, (SH, τ)) := k_X7_closeNots_r d hJ rfl
/-! IsHeIn$Reader.joinWhatWaits(Z)V -/
theorem srt109 : m_srt mc109 = true := by decide +kernel
def C_X7_joinWhatWaits_2 (N : Nat) (xs : Nat → Int32) (d : Nat) (r : Option Value × mH) (C : (mG) → Prop) : ((Int32 × Int32 × mG) ⊕ (mG)) → Prop
  | .inl v => Rn N xs (d + 2) me109 2 [some (.ref 55), some (.int v.1), some (.int v.2.1), none] [] (SH, v.2.2) r
  | .inr a => C a
def F_X7_joinWhatWaits_50 (x1 : Int32) (x2 : Int32) (y1 : Int32) (s : mG) : Option ((Int32 × Int32 × mG) ⊕ (mG)) :=
  b1 (F_X10_push 58 (y1 * (c16 10000)) s) fun s7 =>
  let s8 : mG := (mu s7.1 55 7 ((s7.1 55 7) - (ci 1)), s7.2)
  some (Sum.inl (x1, (x2 + ci 1), s8))
set_option maxRecDepth 4000 in
theorem k_X7_joinWhatWaits_50 {N : Nat} {xs : Nat → Int32} (d : Nat) {r : Option Value × mH} {s : mG} {x1 : Int32} {x2 : Int32} {y1 : Int32} {τ : ((Int32 × Int32 × mG) ⊕ (mG))} (hJ : F_X7_joinWhatWaits_50 x1 x2 y1 s = some τ) (hC : (C_X7_joinWhatWaits_2 N xs d r (fun τ => r = (none, (SH, τ)))) τ) : Rn N xs (d + 2) me109 50 [some (.ref 55), some (.int x1), some (.int x2), none] [(.int y1), (.ref 58)] (SH, s) r := by
  unfold F_X7_joinWhatWaits_50 at hJ
  refine Rn_sq srt109 25 2 (pc' := 54) (ls' := [some (.ref 55), some (.int x1), some (.int x2), none]) (st' := [(.int (y1 * (c16 10000))), (.ref 58)]) (h1 := (SH, s)) rfl ?_
  obtain ⟨s7, h6, hJ⟩ := m_b1 hJ
  refine Rn_call srt109 27 rfl rfl rfl ⟨Nat.le_of_ble_eq_true rfl, Nat.le_of_ble_eq_true rfl, rfl, Nat.le_of_ble_eq_true rfl⟩ (k_X10_push 58 (d) isT_58 h6) (show Rn N xs (d + 2) me109 57 [some (.ref 55), some (.int x1), some (.int x2), none] [] (SH, s7) r from ?_)
  extract_lets +onlyGivenNames s8 at hJ
  refine Rn_sq srt109 28 8 (pc' := 2) (ls' := [some (.ref 55), some (.int x1), some (.int (x2 + ci 1)), none]) (st' := []) (h1 := (SH, s8)) rfl ?_
  rw [← Option.some.inj hJ] at hC
  exact hC
def F_X7_joinWhatWaits_32 (x1 : Int32) (x2 : Int32) (x3 : Int32) (s : mG) : Option ((Int32 × Int32 × mG) ⊕ (mG)) :=
  if x3 = (c16 273) then
    F_X7_joinWhatWaits_50 x1 x2 (c8 10) s
  else
    F_X7_joinWhatWaits_50 x1 x2 (c8 11) s
set_option maxRecDepth 4000 in
theorem k_X7_joinWhatWaits_32 {N : Nat} {xs : Nat → Int32} (d : Nat) {r : Option Value × mH} {s : mG} {x1 : Int32} {x2 : Int32} {x3 : Int32} {τ : ((Int32 × Int32 × mG) ⊕ (mG))} (hJ : F_X7_joinWhatWaits_32 x1 x2 x3 s = some τ) (hC : (C_X7_joinWhatWaits_2 N xs d r (fun τ => r = (none, (SH, τ)))) τ) : Rn N xs (d + 2) me109 32 [some (.ref 55), some (.int x1), some (.int x2), some (.int x3)] [] (SH, s) r := by
  unfold F_X7_joinWhatWaits_32 at hJ
  refine Rn_sq srt109 17 5 (pc' := (if x3 = (c16 273) then 43 else 48)) (ls' := [some (.ref 55), some (.int x1), some (.int x2), some (.int x3)]) (st' := [(.ref 58)]) (h1 := (SH, s)) rfl (Rn_if (fun h5 => ?_) (fun h5 => ?_))
  · replace hJ := m_ifp h5 hJ
    refine Rn_sq srt109 22 2 (pc' := 50) (ls' := [some (.ref 55), some (.int x1), some (.int x2), some (.int x3)]) (st' := [(.int (c8 10)), (.ref 58)]) (h1 := (SH, s)) rfl ?_
    exact Rn_weaken (a := [some (.ref 55), some (.int x1), some (.int x2), none]) (b := [some (.ref 55), some (.int x1), some (.int x2), some (.int x3)]) (And.intro rfl (And.intro rfl (And.intro rfl trivial))) rfl (k_X7_joinWhatWaits_50 d hJ hC)
  · replace hJ := m_ifn h5 hJ
    refine Rn_sq srt109 24 1 (pc' := 50) (ls' := [some (.ref 55), some (.int x1), some (.int x2), some (.int x3)]) (st' := [(.int (c8 11)), (.ref 58)]) (h1 := (SH, s)) rfl ?_
    exact Rn_weaken (a := [some (.ref 55), some (.int x1), some (.int x2), none]) (b := [some (.ref 55), some (.int x1), some (.int x2), some (.int x3)]) (And.intro rfl (And.intro rfl (And.intro rfl trivial))) rfl (k_X7_joinWhatWaits_50 d hJ hC)
def F_X7_joinWhatWaits_B2 (x1 : Int32) (x2 : Int32) (s : mG) : Option ((Int32 × Int32 × mG) ⊕ (mG)) :=
  if (c8 64) ≤ x2 then
    some (Sum.inr s)
  else
    b1 (F_X7_lastWaiting s) fun v3 =>
    if v3 = (c16 273) then
      F_X7_joinWhatWaits_32 x1 x2 v3 s
    else
      if v3 = (c16 272) then
        if x1 = 0 then
          F_X7_joinWhatWaits_32 x1 x2 v3 s
        else
          some (Sum.inr s)
      else
        some (Sum.inr s)
set_option maxRecDepth 4000 in
theorem k_X7_joinWhatWaits_B2 {N : Nat} {xs : Nat → Int32} (d : Nat) {r : Option Value × mH} {s : mG} {x1 : Int32} {x2 : Int32} {τ : ((Int32 × Int32 × mG) ⊕ (mG))} (hJ : F_X7_joinWhatWaits_B2 x1 x2 s = some τ) (hC : (C_X7_joinWhatWaits_2 N xs d r (fun τ => r = (none, (SH, τ)))) τ) : Rn N xs (d + 2) me109 2 [some (.ref 55), some (.int x1), some (.int x2), none] [] (SH, s) r := by
  unfold F_X7_joinWhatWaits_B2 at hJ
  refine Rn_sq srt109 2 3 (pc' := (if (c8 64) ≤ x2 then 73 else 8)) (ls' := [some (.ref 55), some (.int x1), some (.int x2), none]) (st' := []) (h1 := (SH, s)) rfl (Rn_if (fun h1 => ?_) (fun h1 => ?_))
  · replace hJ := m_ifp h1 hJ
    rw [← Option.some.inj hJ] at hC
    have hC : r = (none, (SH, s)) := hC
    subst hC
    exact Rn_ret srt109 36 rfl rfl rfl
  · replace hJ := m_ifn h1 hJ
    refine Rn_sq srt109 5 1 (pc' := 9) (ls' := [some (.ref 55), some (.int x1), some (.int x2), none]) (st' := [(.ref 55)]) (h1 := (SH, s)) rfl ?_
    obtain ⟨v3, h2, hJ⟩ := m_b1 hJ
    refine Rn_call srt109 6 rfl rfl rfl ⟨Nat.le_of_ble_eq_true rfl, Nat.le_of_ble_eq_true rfl, rfl, Nat.le_of_ble_eq_true rfl⟩ (k_X7_lastWaiting (d) h2) (show Rn N xs (d + 2) me109 12 [some (.ref 55), some (.int x1), some (.int x2), none] [(.int v3)] (SH, s) r from ?_)
    refine Rn_sq srt109 7 4 (pc' := (if v3 = (c16 273) then 32 else 20)) (ls' := [some (.ref 55), some (.int x1), some (.int x2), some (.int v3)]) (st' := []) (h1 := (SH, s)) rfl (Rn_if (fun h4 => ?_) (fun h4 => ?_))
    · replace hJ := m_ifp h4 hJ
      exact (k_X7_joinWhatWaits_32 d hJ hC)
    · replace hJ := m_ifn h4 hJ
      refine Rn_sq srt109 11 3 (pc' := (if v3 = (c16 272) then 27 else 31)) (ls' := [some (.ref 55), some (.int x1), some (.int x2), some (.int v3)]) (st' := []) (h1 := (SH, s)) rfl (Rn_if (fun h9 => ?_) (fun h9 => ?_))
      · replace hJ := m_ifp h9 hJ
        refine Rn_sq srt109 14 2 (pc' := (if x1 = 0 then 32 else 31)) (ls' := [some (.ref 55), some (.int x1), some (.int x2), some (.int v3)]) (st' := []) (h1 := (SH, s)) rfl (Rn_if (fun h10 => ?_) (fun h10 => ?_))
        · replace hJ := m_ifp h10 hJ
          exact (k_X7_joinWhatWaits_32 d hJ hC)
        · replace hJ := m_ifn h10 hJ
          rw [← Option.some.inj hJ] at hC
          have hC : r = (none, (SH, s)) := hC
          subst hC
          exact Rn_ret srt109 16 rfl rfl rfl
      · replace hJ := m_ifn h9 hJ
        rw [← Option.some.inj hJ] at hC
        have hC : r = (none, (SH, s)) := hC
        subst hC
        exact Rn_ret srt109 16 rfl rfl rfl
def F_X7_joinWhatWaits_L2 (x1 : Int32) (x2 : Int32) (s : mG) : Option (mG) := whl (fun (v : (Int32 × Int32 × mG)) => F_X7_joinWhatWaits_B2 v.1 v.2.1 v.2.2) (x1, x2, s)
theorem k_X7_joinWhatWaits_L2 {N : Nat} {xs : Nat → Int32} (d : Nat) {r : Option Value × mH} {s : mG} {x1 : Int32} {x2 : Int32} {τ : (mG)} (hJ : F_X7_joinWhatWaits_L2 x1 x2 s = some τ) (hC : (fun τ => r = (none, (SH, τ))) τ) : Rn N xs (d + 2) me109 2 [some (.ref 55), some (.int x1), some (.int x2), none] [] (SH, s) r :=
  whl_link (P := fun (v : (Int32 × Int32 × mG)) => Rn N xs (d + 2) me109 2 [some (.ref 55), some (.int v.1), some (.int v.2.1), none] [] (SH, v.2.2) r) (C := (C_X7_joinWhatWaits_2 N xs d r (fun τ => r = (none, (SH, τ))))) (fun v τ h1 h2 => k_X7_joinWhatWaits_B2 d h1 h2) (fun _ h => h) (fun _ h => h) _ _ hJ hC
def F_X7_joinWhatWaits (a1 : Int32) (s : mG) : Option (mG) :=
  F_X7_joinWhatWaits_L2 a1 (ci 0) s
set_option maxRecDepth 4000 in
theorem k_X7_joinWhatWaits_r {N : Nat} {xs : Nat → Int32} (d : Nat) {r : Option Value × mH} {s : mG} {a1 : Int32} {τ : (mG)} (hJ : F_X7_joinWhatWaits a1 s = some τ) (hC : (fun τ => r = (none, (SH, τ))) τ) : Rn N xs (d + 2) me109 0 [some (.ref 55), some (.int a1), none, none] [] (SH, s) r := by
  unfold F_X7_joinWhatWaits at hJ
  refine Rn_sq srt109 0 2 (pc' := 2) (ls' := [some (.ref 55), some (.int a1), some (.int (ci 0)), none]) (st' := []) (h1 := (SH, s)) rfl ?_
  exact (k_X7_joinWhatWaits_L2 d hJ hC)
theorem k_X7_joinWhatWaits {N : Nat} {xs : Nat → Int32} (d : Nat) {s : mG} {a1 : Int32} {τ : (mG)} (hJ : F_X7_joinWhatWaits a1 s = some τ) : Rn N xs (d + 2) me109 0 [some (.ref 55), some (.int a1), none, none] [] (SH, s) (none, (SH, τ)) := k_X7_joinWhatWaits_r d hJ rfl
/-! IsHeIn$Reader.readClosings()V -/
theorem srt107 : m_srt mc107 = true := by decide +kernel
def C_X7_readClosings_6 (N : Nat) (xs : Nat → Int32) (d : Nat) (r : Option Value × mH) (C : (mG) → Prop) : ((Int32 × mG) ⊕ (mG)) → Prop
  | .inl v => Rn N xs (d + 3) me107 6 [some (.ref 55), some (.int v.1)] [] (SH, v.2) r
  | .inr a => C a
def F_X7_readClosings_B6 (x1 : Int32) (s : mG) : Option ((Int32 × mG) ⊕ (mG)) :=
  if (c16 400) ≤ x1 then
    some (Sum.inr s)
  else
    if (s.1 55 14) = (c8 41) then
      if (s.1 55 8) ≤ 0 then
        some (Sum.inr s)
      else
        b1 (F_X7_joinWhatWaits (ci 0) s) fun s7 =>
        let s8 : mG := (mu s7.1 55 7 ((s7.1 55 7) - (ci 1)), s7.2)
        let s9 : mG := (mu s8.1 55 8 ((s8.1 55 8) - (ci 1)), s8.2)
        b1 (F_X7_stepOn s9) fun s11 =>
        b1 (F_X7_closeNots s11) fun s13 =>
        some (Sum.inl ((x1 + ci 1), s13))
    else
      some (Sum.inr s)
set_option maxRecDepth 4000 in
theorem k_X7_readClosings_B6 {N : Nat} {xs : Nat → Int32} (d : Nat) {r : Option Value × mH} {s : mG} {x1 : Int32} {τ : ((Int32 × mG) ⊕ (mG))} (hJ : F_X7_readClosings_B6 x1 s = some τ) (hC : (C_X7_readClosings_6 N xs d r (fun τ => r = (none, (SH, τ)))) τ) : Rn N xs (d + 3) me107 6 [some (.ref 55), some (.int x1)] [] (SH, s) r := by
  unfold F_X7_readClosings_B6 at hJ
  refine Rn_sq srt107 4 3 (pc' := (if (c16 400) ≤ x1 then 68 else 13)) (ls' := [some (.ref 55), some (.int x1)]) (st' := []) (h1 := (SH, s)) rfl (Rn_if (fun h3 => ?_) (fun h3 => ?_))
  · replace hJ := m_ifp h3 hJ
    rw [← Option.some.inj hJ] at hC
    have hC : r = (none, (SH, s)) := hC
    subst hC
    exact Rn_ret srt107 35 rfl rfl rfl
  · replace hJ := m_ifn h3 hJ
    refine Rn_sq srt107 7 4 (pc' := (if (s.1 55 14) = (c8 41) then 22 else 68)) (ls' := [some (.ref 55), some (.int x1)]) (st' := []) (h1 := (SH, s)) rfl (Rn_if (fun h4 => ?_) (fun h4 => ?_))
    · replace hJ := m_ifp h4 hJ
      refine Rn_sq srt107 11 3 (pc' := (if (s.1 55 8) ≤ 0 then 68 else 29)) (ls' := [some (.ref 55), some (.int x1)]) (st' := []) (h1 := (SH, s)) rfl (Rn_if (fun h5 => ?_) (fun h5 => ?_))
      · replace hJ := m_ifp h5 hJ
        rw [← Option.some.inj hJ] at hC
        have hC : r = (none, (SH, s)) := hC
        subst hC
        exact Rn_ret srt107 35 rfl rfl rfl
      · replace hJ := m_ifn h5 hJ
        refine Rn_sq srt107 14 2 (pc' := 31) (ls' := [some (.ref 55), some (.int x1)]) (st' := [(.int (ci 0)), (.ref 55)]) (h1 := (SH, s)) rfl ?_
        obtain ⟨s7, h6, hJ⟩ := m_b1 hJ
        refine Rn_call srt107 16 rfl rfl rfl ⟨Nat.le_of_ble_eq_true rfl, Nat.le_of_ble_eq_true rfl, rfl, Nat.le_of_ble_eq_true rfl⟩ (k_X7_joinWhatWaits (d) h6) (show Rn N xs (d + 3) me107 34 [some (.ref 55), some (.int x1)] [] (SH, s7) r from ?_)
        extract_lets +onlyGivenNames s8 at hJ
        extract_lets +onlyGivenNames s9 at hJ
        refine Rn_sq srt107 17 13 (pc' := 55) (ls' := [some (.ref 55), some (.int x1)]) (st' := [(.ref 55)]) (h1 := (SH, s9)) rfl ?_
        obtain ⟨s11, h10, hJ⟩ := m_b1 hJ
        refine Rn_call srt107 30 rfl rfl rfl ⟨Nat.le_of_ble_eq_true rfl, Nat.le_of_ble_eq_true rfl, rfl, Nat.le_of_ble_eq_true rfl⟩ (k_X7_stepOn (d + 1) h10) (show Rn N xs (d + 3) me107 58 [some (.ref 55), some (.int x1)] [] (SH, s11) r from ?_)
        refine Rn_sq srt107 31 1 (pc' := 59) (ls' := [some (.ref 55), some (.int x1)]) (st' := [(.ref 55)]) (h1 := (SH, s11)) rfl ?_
        obtain ⟨s13, h12, hJ⟩ := m_b1 hJ
        refine Rn_call srt107 32 rfl rfl rfl ⟨Nat.le_of_ble_eq_true rfl, Nat.le_of_ble_eq_true rfl, rfl, Nat.le_of_ble_eq_true rfl⟩ (k_X7_closeNots (d) h12) (show Rn N xs (d + 3) me107 62 [some (.ref 55), some (.int x1)] [] (SH, s13) r from ?_)
        refine Rn_sq srt107 33 2 (pc' := 6) (ls' := [some (.ref 55), some (.int (x1 + ci 1))]) (st' := []) (h1 := (SH, s13)) rfl ?_
        rw [← Option.some.inj hJ] at hC
        exact hC
    · replace hJ := m_ifn h4 hJ
      rw [← Option.some.inj hJ] at hC
      have hC : r = (none, (SH, s)) := hC
      subst hC
      exact Rn_ret srt107 35 rfl rfl rfl
def F_X7_readClosings_L6 (x1 : Int32) (s : mG) : Option (mG) := whl (fun (v : (Int32 × mG)) => F_X7_readClosings_B6 v.1 v.2) (x1, s)
theorem k_X7_readClosings_L6 {N : Nat} {xs : Nat → Int32} (d : Nat) {r : Option Value × mH} {s : mG} {x1 : Int32} {τ : (mG)} (hJ : F_X7_readClosings_L6 x1 s = some τ) (hC : (fun τ => r = (none, (SH, τ))) τ) : Rn N xs (d + 3) me107 6 [some (.ref 55), some (.int x1)] [] (SH, s) r :=
  whl_link (P := fun (v : (Int32 × mG)) => Rn N xs (d + 3) me107 6 [some (.ref 55), some (.int v.1)] [] (SH, v.2) r) (C := (C_X7_readClosings_6 N xs d r (fun τ => r = (none, (SH, τ))))) (fun v τ h1 h2 => k_X7_readClosings_B6 d h1 h2) (fun _ h => h) (fun _ h => h) _ _ hJ hC
def F_X7_readClosings (s : mG) : Option (mG) :=
  b1 (F_X7_closeNots s) fun s2 =>
  F_X7_readClosings_L6 (ci 0) s2
set_option maxRecDepth 4000 in
theorem k_X7_readClosings_r {N : Nat} {xs : Nat → Int32} (d : Nat) {r : Option Value × mH} {s : mG} {τ : (mG)} (hJ : F_X7_readClosings s = some τ) (hC : (fun τ => r = (none, (SH, τ))) τ) : Rn N xs (d + 3) me107 0 [some (.ref 55), none] [] (SH, s) r := by
  unfold F_X7_readClosings at hJ
  refine Rn_sq srt107 0 1 (pc' := 1) (ls' := [some (.ref 55), none]) (st' := [(.ref 55)]) (h1 := (SH, s)) rfl ?_
  obtain ⟨s2, h1, hJ⟩ := m_b1 hJ
  refine Rn_call srt107 1 rfl rfl rfl ⟨Nat.le_of_ble_eq_true rfl, Nat.le_of_ble_eq_true rfl, rfl, Nat.le_of_ble_eq_true rfl⟩ (k_X7_closeNots (d) h1) (show Rn N xs (d + 3) me107 4 [some (.ref 55), none] [] (SH, s2) r from ?_)
  refine Rn_sq srt107 2 2 (pc' := 6) (ls' := [some (.ref 55), some (.int (ci 0))]) (st' := []) (h1 := (SH, s2)) rfl ?_
  exact (k_X7_readClosings_L6 d hJ hC)
theorem k_X7_readClosings {N : Nat} {xs : Nat → Int32} (d : Nat) {s : mG} {τ : (mG)} (hJ : F_X7_readClosings s = some τ) : Rn N xs (d + 3) me107 0 [some (.ref 55), none] [] (SH, s) (none, (SH, τ)) := k_X7_readClosings_r d hJ rfl
/-! IsHeIn$Reader.readCondition()Z -/
theorem srt102 : m_srt mc102 = true := by decide +kernel
def C_X7_readCondition_12 (N : Nat) (xs : Nat → Int32) (d : Nat) (r : Option Value × mH) (C : (Int32 × mG) → Prop) : ((Int32 × mG) ⊕ (Int32 × mG)) → Prop
  | .inl v => Rn N xs (d + 4) me102 12 [some (.ref 55), some (.int v.1), none] [] (SH, v.2) r
  | .inr a => C a
def F_X7_readCondition_33 (s : mG) : Option (Int32 × mG) :=
  some ((ci 0), s)
set_option maxRecDepth 4000 in
theorem k_X7_readCondition_33 {N : Nat} {xs : Nat → Int32} (d : Nat) {r : Option Value × mH} {s : mG} {τ : (Int32 × mG)} (hJ : F_X7_readCondition_33 s = some τ) (hC : (fun τ => r = (some (.int τ.1), (SH, τ.2))) τ) : Rn N xs (d + 4) me102 33 [none, none, none] [] (SH, s) r := by
  unfold F_X7_readCondition_33 at hJ
  refine Rn_sq srt102 17 1 (pc' := 34) (ls' := [none, none, none]) (st' := [(.int (ci 0))]) (h1 := (SH, s)) rfl ?_
  rw [← Option.some.inj hJ] at hC
  have hC : r = (some (.int (ci 0)), (SH, s)) := hC
  subst hC
  exact Rn_ret srt102 18 rfl rfl (m_ret_b rfl (by decide))
def F_X7_readCondition_140 (x1 : Int32) (s : mG) : Option ((Int32 × mG) ⊕ (Int32 × mG)) :=
  b1 (F_X7_hold (s.1 55 14) s) fun s34 =>
  b1 (F_X7_stepOn s34) fun s36 =>
  some (Sum.inl ((x1 + ci 1), s36))
set_option maxRecDepth 4000 in
theorem k_X7_readCondition_140 {N : Nat} {xs : Nat → Int32} (d : Nat) {r : Option Value × mH} {s : mG} {x1 : Int32} {τ : ((Int32 × mG) ⊕ (Int32 × mG))} (hJ : F_X7_readCondition_140 x1 s = some τ) (hC : (C_X7_readCondition_12 N xs d r (fun τ => r = (some (.int τ.1), (SH, τ.2)))) τ) : Rn N xs (d + 4) me102 140 [some (.ref 55), some (.int x1), none] [] (SH, s) r := by
  unfold F_X7_readCondition_140 at hJ
  refine Rn_sq srt102 72 3 (pc' := 145) (ls' := [some (.ref 55), some (.int x1), none]) (st' := [(.int (s.1 55 14)), (.ref 55)]) (h1 := (SH, s)) rfl ?_
  obtain ⟨s34, h33, hJ⟩ := m_b1 hJ
  refine Rn_call srt102 75 rfl rfl rfl ⟨Nat.le_of_ble_eq_true rfl, Nat.le_of_ble_eq_true rfl, rfl, Nat.le_of_ble_eq_true rfl⟩ (k_X7_hold (d + 2) h33) (show Rn N xs (d + 4) me102 148 [some (.ref 55), some (.int x1), none] [] (SH, s34) r from ?_)
  refine Rn_sq srt102 76 1 (pc' := 149) (ls' := [some (.ref 55), some (.int x1), none]) (st' := [(.ref 55)]) (h1 := (SH, s34)) rfl ?_
  obtain ⟨s36, h35, hJ⟩ := m_b1 hJ
  refine Rn_call srt102 77 rfl rfl rfl ⟨Nat.le_of_ble_eq_true rfl, Nat.le_of_ble_eq_true rfl, rfl, Nat.le_of_ble_eq_true rfl⟩ (k_X7_stepOn (d + 2) h35) (show Rn N xs (d + 4) me102 152 [some (.ref 55), some (.int x1), none] [] (SH, s36) r from ?_)
  refine Rn_sq srt102 78 2 (pc' := 12) (ls' := [some (.ref 55), some (.int (x1 + ci 1)), none]) (st' := []) (h1 := (SH, s36)) rfl ?_
  rw [← Option.some.inj hJ] at hC
  exact hC
def F_X7_readCondition_134 (s : mG) : Option (Int32 × mG) :=
  some ((ci 1), s)
set_option maxRecDepth 4000 in
theorem k_X7_readCondition_134 {N : Nat} {xs : Nat → Int32} (d : Nat) {r : Option Value × mH} {s : mG} {τ : (Int32 × mG)} (hJ : F_X7_readCondition_134 s = some τ) (hC : (fun τ => r = (some (.int τ.1), (SH, τ.2))) τ) : Rn N xs (d + 4) me102 134 [none, none, none] [] (SH, s) r := by
  unfold F_X7_readCondition_134 at hJ
  refine Rn_sq srt102 68 2 (pc' := 139) (ls' := [none, none, none]) (st' := [(.int (ci 1))]) (h1 := (SH, s)) rfl ?_
  rw [← Option.some.inj hJ] at hC
  have hC : r = (some (.int (ci 1)), (SH, s)) := hC
  subst hC
  exact Rn_ret srt102 71 rfl rfl (m_ret_b rfl (by decide))
def F_X7_readCondition_96 (x1 : Int32) (y1 : Int32) (s : mG) : Option ((Int32 × mG) ⊕ (Int32 × mG)) :=
  b1 (F_X7_joinWhatWaits y1 s) fun s31 =>
  if (s31.1 55 14) = (c16 273) then
    F_X7_readCondition_140 x1 s31
  else
    if (s31.1 55 14) = (c16 272) then
      F_X7_readCondition_140 x1 s31
    else
      if (s31.1 55 8) = 0 then
        b1 (F_X7_readCondition_134 s31) fun τ => some (Sum.inr τ)
      else
        b2 (F_X7_refuse (ci 1) s31) fun v41 s40 =>
        if v41 = 0 then
          some (Sum.inr ((ci 0), s40))
        else
          b1 (F_X7_readCondition_134 s40) fun τ => some (Sum.inr τ)
set_option maxRecDepth 4000 in
theorem k_X7_readCondition_96 {N : Nat} {xs : Nat → Int32} (d : Nat) {r : Option Value × mH} {s : mG} {x1 : Int32} {y1 : Int32} {τ : ((Int32 × mG) ⊕ (Int32 × mG))} (hJ : F_X7_readCondition_96 x1 y1 s = some τ) (hC : (C_X7_readCondition_12 N xs d r (fun τ => r = (some (.int τ.1), (SH, τ.2)))) τ) : Rn N xs (d + 4) me102 96 [some (.ref 55), some (.int x1), none] [(.int y1), (.ref 55)] (SH, s) r := by
  unfold F_X7_readCondition_96 at hJ
  obtain ⟨s31, h30, hJ⟩ := m_b1 hJ
  refine Rn_call srt102 52 rfl rfl rfl ⟨Nat.le_of_ble_eq_true rfl, Nat.le_of_ble_eq_true rfl, rfl, Nat.le_of_ble_eq_true rfl⟩ (k_X7_joinWhatWaits (d + 1) h30) (show Rn N xs (d + 4) me102 99 [some (.ref 55), some (.int x1), none] [] (SH, s31) r from ?_)
  refine Rn_sq srt102 53 4 (pc' := (if (s31.1 55 14) = (c16 273) then 140 else 109)) (ls' := [some (.ref 55), some (.int x1), none]) (st' := []) (h1 := (SH, s31)) rfl (Rn_if (fun h32 => ?_) (fun h32 => ?_))
  · replace hJ := m_ifp h32 hJ
    exact (k_X7_readCondition_140 d hJ hC)
  · replace hJ := m_ifn h32 hJ
    refine Rn_sq srt102 57 4 (pc' := (if (s31.1 55 14) = (c16 272) then 140 else 119)) (ls' := [some (.ref 55), some (.int x1), none]) (st' := []) (h1 := (SH, s31)) rfl (Rn_if (fun h37 => ?_) (fun h37 => ?_))
    · replace hJ := m_ifp h37 hJ
      exact (k_X7_readCondition_140 d hJ hC)
    · replace hJ := m_ifn h37 hJ
      refine Rn_sq srt102 61 3 (pc' := (if (s31.1 55 8) = 0 then 134 else 126)) (ls' := [some (.ref 55), some (.int x1), none]) (st' := []) (h1 := (SH, s31)) rfl (Rn_if (fun h38 => ?_) (fun h38 => ?_))
      · replace hJ := m_ifp h38 hJ
        obtain ⟨τ1, hJ1, hJ⟩ := m_b1 hJ
        rw [← Option.some.inj hJ] at hC
        exact Rn_weaken (a := [none, none, none]) (b := [some (.ref 55), some (.int x1), none]) trivial rfl (k_X7_readCondition_134 d hJ1 hC)
      · replace hJ := m_ifn h38 hJ
        refine Rn_sq srt102 64 2 (pc' := 128) (ls' := [some (.ref 55), some (.int x1), none]) (st' := [(.int (ci 1)), (.ref 55)]) (h1 := (SH, s31)) rfl ?_
        obtain ⟨v41, s40, h39, hJ⟩ := m_b2 hJ
        refine Rn_call srt102 66 rfl rfl rfl ⟨Nat.le_of_ble_eq_true rfl, Nat.le_of_ble_eq_true rfl, rfl, Nat.le_of_ble_eq_true rfl⟩ (k_X7_refuse (d + 3) h39) (show Rn N xs (d + 4) me102 131 [some (.ref 55), some (.int x1), none] [(.int v41)] (SH, s40) r from ?_)
        refine Rn_sq srt102 67 1 (pc' := (if v41 = 0 then 138 else 134)) (ls' := [some (.ref 55), some (.int x1), none]) (st' := []) (h1 := (SH, s40)) rfl (Rn_if (fun h42 => ?_) (fun h42 => ?_))
        · replace hJ := m_ifp h42 hJ
          refine Rn_sq srt102 70 1 (pc' := 139) (ls' := [some (.ref 55), some (.int x1), none]) (st' := [(.int (ci 0))]) (h1 := (SH, s40)) rfl ?_
          rw [← Option.some.inj hJ] at hC
          have hC : r = (some (.int (ci 0)), (SH, s40)) := hC
          subst hC
          exact Rn_ret srt102 71 rfl rfl (m_ret_b rfl (by decide))
        · replace hJ := m_ifn h42 hJ
          obtain ⟨τ1, hJ1, hJ⟩ := m_b1 hJ
          rw [← Option.some.inj hJ] at hC
          exact Rn_weaken (a := [none, none, none]) (b := [some (.ref 55), some (.int x1), none]) trivial rfl (k_X7_readCondition_134 d hJ1 hC)
def F_X7_readCondition_B12 (x1 : Int32) (s : mG) : Option ((Int32 × mG) ⊕ (Int32 × mG)) :=
  if (c16 400) ≤ x1 then
    some (Sum.inr ((ci 0), s))
  else
    b2 (F_X7_readOpenings s) fun v6 s5 =>
    if v6 = 0 then
      b1 (F_X7_readCondition_33 s5) fun τ => some (Sum.inr τ)
    else
      b2 (F_X7_readSum s5) fun v10 s9 =>
      if v10 = 0 then
        b1 (F_X7_readCondition_33 s9) fun τ => some (Sum.inr τ)
      else
        b1 (F_X7_stepOfComparison s9) fun v13 =>
        if v13 = (ci (-1)) then
          b2 (F_X7_refuse (ci 1) s9) fun v17 s16 =>
          if v17 = 0 ∨ v17 = 1 then
            some (Sum.inr (v17, s16))
          else none
        else
          b1 (F_X7_stepOn s9) fun s20 =>
          b2 (F_X7_readSum s20) fun v23 s22 =>
          if v23 = 0 then
            some (Sum.inr ((ci 0), s22))
          else
            b1 (F_X10_push 58 (v13 * (c16 10000)) s22) fun s26 =>
            b1 (F_X7_readClosings s26) fun s28 =>
            if (s28.1 55 14) = (c16 273) then
              F_X7_readCondition_96 x1 (ci 1) s28
            else
              F_X7_readCondition_96 x1 (ci 0) s28
set_option maxRecDepth 4000 in
theorem k_X7_readCondition_B12 {N : Nat} {xs : Nat → Int32} (d : Nat) {r : Option Value × mH} {s : mG} {x1 : Int32} {τ : ((Int32 × mG) ⊕ (Int32 × mG))} (hJ : F_X7_readCondition_B12 x1 s = some τ) (hC : (C_X7_readCondition_12 N xs d r (fun τ => r = (some (.int τ.1), (SH, τ.2)))) τ) : Rn N xs (d + 4) me102 12 [some (.ref 55), some (.int x1), none] [] (SH, s) r := by
  unfold F_X7_readCondition_B12 at hJ
  refine Rn_sq srt102 8 3 (pc' := (if (c16 400) ≤ x1 then 158 else 19)) (ls' := [some (.ref 55), some (.int x1), none]) (st' := []) (h1 := (SH, s)) rfl (Rn_if (fun h3 => ?_) (fun h3 => ?_))
  · replace hJ := m_ifp h3 hJ
    refine Rn_sq srt102 80 1 (pc' := 159) (ls' := [some (.ref 55), some (.int x1), none]) (st' := [(.int (ci 0))]) (h1 := (SH, s)) rfl ?_
    rw [← Option.some.inj hJ] at hC
    have hC : r = (some (.int (ci 0)), (SH, s)) := hC
    subst hC
    exact Rn_ret srt102 81 rfl rfl (m_ret_b rfl (by decide))
  · replace hJ := m_ifn h3 hJ
    refine Rn_sq srt102 11 1 (pc' := 20) (ls' := [some (.ref 55), some (.int x1), none]) (st' := [(.ref 55)]) (h1 := (SH, s)) rfl ?_
    obtain ⟨v6, s5, h4, hJ⟩ := m_b2 hJ
    refine Rn_call srt102 12 rfl rfl rfl ⟨Nat.le_of_ble_eq_true rfl, Nat.le_of_ble_eq_true rfl, rfl, Nat.le_of_ble_eq_true rfl⟩ (k_X7_readOpenings (d + 1) h4) (show Rn N xs (d + 4) me102 23 [some (.ref 55), some (.int x1), none] [(.int v6)] (SH, s5) r from ?_)
    refine Rn_sq srt102 13 1 (pc' := (if v6 = 0 then 33 else 26)) (ls' := [some (.ref 55), some (.int x1), none]) (st' := []) (h1 := (SH, s5)) rfl (Rn_if (fun h7 => ?_) (fun h7 => ?_))
    · replace hJ := m_ifp h7 hJ
      obtain ⟨τ1, hJ1, hJ⟩ := m_b1 hJ
      rw [← Option.some.inj hJ] at hC
      exact Rn_weaken (a := [none, none, none]) (b := [some (.ref 55), some (.int x1), none]) trivial rfl (k_X7_readCondition_33 d hJ1 hC)
    · replace hJ := m_ifn h7 hJ
      refine Rn_sq srt102 14 1 (pc' := 27) (ls' := [some (.ref 55), some (.int x1), none]) (st' := [(.ref 55)]) (h1 := (SH, s5)) rfl ?_
      obtain ⟨v10, s9, h8, hJ⟩ := m_b2 hJ
      refine Rn_call srt102 15 rfl rfl rfl ⟨Nat.le_of_ble_eq_true rfl, Nat.le_of_ble_eq_true rfl, rfl, Nat.le_of_ble_eq_true rfl⟩ (k_X7_readSum (d) h8) (show Rn N xs (d + 4) me102 30 [some (.ref 55), some (.int x1), none] [(.int v10)] (SH, s9) r from ?_)
      refine Rn_sq srt102 16 1 (pc' := (if v10 = 0 then 33 else 35)) (ls' := [some (.ref 55), some (.int x1), none]) (st' := []) (h1 := (SH, s9)) rfl (Rn_if (fun h11 => ?_) (fun h11 => ?_))
      · replace hJ := m_ifp h11 hJ
        obtain ⟨τ1, hJ1, hJ⟩ := m_b1 hJ
        rw [← Option.some.inj hJ] at hC
        exact Rn_weaken (a := [none, none, none]) (b := [some (.ref 55), some (.int x1), none]) trivial rfl (k_X7_readCondition_33 d hJ1 hC)
      · replace hJ := m_ifn h11 hJ
        refine Rn_sq srt102 19 1 (pc' := 36) (ls' := [some (.ref 55), some (.int x1), none]) (st' := [(.ref 55)]) (h1 := (SH, s9)) rfl ?_
        obtain ⟨v13, h12, hJ⟩ := m_b1 hJ
        refine Rn_call srt102 20 rfl rfl rfl ⟨Nat.le_of_ble_eq_true rfl, Nat.le_of_ble_eq_true rfl, rfl, Nat.le_of_ble_eq_true rfl⟩ (k_X7_stepOfComparison (d + 3) h12) (show Rn N xs (d + 4) me102 39 [some (.ref 55), some (.int x1), none] [(.int v13)] (SH, s9) r from ?_)
        refine Rn_sq srt102 21 4 (pc' := (if v13 = (ci (-1)) then 45 else 51)) (ls' := [some (.ref 55), some (.int x1), some (.int v13)]) (st' := []) (h1 := (SH, s9)) rfl (Rn_if (fun h14 => ?_) (fun h14 => ?_))
        · replace hJ := m_ifp h14 hJ
          refine Rn_sq srt102 25 2 (pc' := 47) (ls' := [some (.ref 55), some (.int x1), some (.int v13)]) (st' := [(.int (ci 1)), (.ref 55)]) (h1 := (SH, s9)) rfl ?_
          obtain ⟨v17, s16, h15, hJ⟩ := m_b2 hJ
          refine Rn_call srt102 27 rfl rfl rfl ⟨Nat.le_of_ble_eq_true rfl, Nat.le_of_ble_eq_true rfl, rfl, Nat.le_of_ble_eq_true rfl⟩ (k_X7_refuse (d + 3) h15) (show Rn N xs (d + 4) me102 50 [some (.ref 55), some (.int x1), some (.int v13)] [(.int v17)] (SH, s16) r from ?_)
          obtain ⟨h18, hJ⟩ := m_gp hJ
          rw [← Option.some.inj hJ] at hC
          have hC : r = (some (.int v17), (SH, s16)) := hC
          subst hC
          exact Rn_ret srt102 28 rfl rfl (m_ret_b rfl h18)
        · replace hJ := m_ifn h14 hJ
          refine Rn_sq srt102 29 1 (pc' := 52) (ls' := [some (.ref 55), some (.int x1), some (.int v13)]) (st' := [(.ref 55)]) (h1 := (SH, s9)) rfl ?_
          obtain ⟨s20, h19, hJ⟩ := m_b1 hJ
          refine Rn_call srt102 30 rfl rfl rfl ⟨Nat.le_of_ble_eq_true rfl, Nat.le_of_ble_eq_true rfl, rfl, Nat.le_of_ble_eq_true rfl⟩ (k_X7_stepOn (d + 2) h19) (show Rn N xs (d + 4) me102 55 [some (.ref 55), some (.int x1), some (.int v13)] [] (SH, s20) r from ?_)
          refine Rn_sq srt102 31 1 (pc' := 56) (ls' := [some (.ref 55), some (.int x1), some (.int v13)]) (st' := [(.ref 55)]) (h1 := (SH, s20)) rfl ?_
          obtain ⟨v23, s22, h21, hJ⟩ := m_b2 hJ
          refine Rn_call srt102 32 rfl rfl rfl ⟨Nat.le_of_ble_eq_true rfl, Nat.le_of_ble_eq_true rfl, rfl, Nat.le_of_ble_eq_true rfl⟩ (k_X7_readSum (d) h21) (show Rn N xs (d + 4) me102 59 [some (.ref 55), some (.int x1), some (.int v13)] [(.int v23)] (SH, s22) r from ?_)
          refine Rn_sq srt102 33 1 (pc' := (if v23 = 0 then 62 else 64)) (ls' := [some (.ref 55), some (.int x1), some (.int v13)]) (st' := []) (h1 := (SH, s22)) rfl (Rn_if (fun h24 => ?_) (fun h24 => ?_))
          · replace hJ := m_ifp h24 hJ
            refine Rn_sq srt102 34 1 (pc' := 63) (ls' := [some (.ref 55), some (.int x1), some (.int v13)]) (st' := [(.int (ci 0))]) (h1 := (SH, s22)) rfl ?_
            rw [← Option.some.inj hJ] at hC
            have hC : r = (some (.int (ci 0)), (SH, s22)) := hC
            subst hC
            exact Rn_ret srt102 35 rfl rfl (m_ret_b rfl (by decide))
          · replace hJ := m_ifn h24 hJ
            refine Rn_sq srt102 36 5 (pc' := 73) (ls' := [some (.ref 55), some (.int x1), some (.int v13)]) (st' := [(.int (v13 * (c16 10000))), (.ref 58)]) (h1 := (SH, s22)) rfl ?_
            obtain ⟨s26, h25, hJ⟩ := m_b1 hJ
            refine Rn_call srt102 41 rfl rfl rfl ⟨Nat.le_of_ble_eq_true rfl, Nat.le_of_ble_eq_true rfl, rfl, Nat.le_of_ble_eq_true rfl⟩ (k_X10_push 58 (d + 2) isT_58 h25) (show Rn N xs (d + 4) me102 76 [some (.ref 55), some (.int x1), some (.int v13)] [] (SH, s26) r from ?_)
            refine Rn_sq srt102 42 1 (pc' := 77) (ls' := [some (.ref 55), some (.int x1), some (.int v13)]) (st' := [(.ref 55)]) (h1 := (SH, s26)) rfl ?_
            obtain ⟨s28, h27, hJ⟩ := m_b1 hJ
            refine Rn_call srt102 43 rfl rfl rfl ⟨Nat.le_of_ble_eq_true rfl, Nat.le_of_ble_eq_true rfl, rfl, Nat.le_of_ble_eq_true rfl⟩ (k_X7_readClosings (d) h27) (show Rn N xs (d + 4) me102 80 [some (.ref 55), some (.int x1), some (.int v13)] [] (SH, s28) r from ?_)
            refine Rn_sq srt102 44 5 (pc' := (if (s28.1 55 14) = (c16 273) then 91 else 95)) (ls' := [some (.ref 55), some (.int x1), some (.int v13)]) (st' := [(.ref 55)]) (h1 := (SH, s28)) rfl (Rn_if (fun h29 => ?_) (fun h29 => ?_))
            · replace hJ := m_ifp h29 hJ
              refine Rn_sq srt102 49 2 (pc' := 96) (ls' := [some (.ref 55), some (.int x1), some (.int v13)]) (st' := [(.int (ci 1)), (.ref 55)]) (h1 := (SH, s28)) rfl ?_
              exact Rn_weaken (a := [some (.ref 55), some (.int x1), none]) (b := [some (.ref 55), some (.int x1), some (.int v13)]) (And.intro rfl (And.intro rfl trivial)) rfl (k_X7_readCondition_96 d hJ hC)
            · replace hJ := m_ifn h29 hJ
              refine Rn_sq srt102 51 1 (pc' := 96) (ls' := [some (.ref 55), some (.int x1), some (.int v13)]) (st' := [(.int (ci 0)), (.ref 55)]) (h1 := (SH, s28)) rfl ?_
              exact Rn_weaken (a := [some (.ref 55), some (.int x1), none]) (b := [some (.ref 55), some (.int x1), some (.int v13)]) (And.intro rfl (And.intro rfl trivial)) rfl (k_X7_readCondition_96 d hJ hC)
def F_X7_readCondition_L12 (x1 : Int32) (s : mG) : Option (Int32 × mG) := whl (fun (v : (Int32 × mG)) => F_X7_readCondition_B12 v.1 v.2) (x1, s)
theorem k_X7_readCondition_L12 {N : Nat} {xs : Nat → Int32} (d : Nat) {r : Option Value × mH} {s : mG} {x1 : Int32} {τ : (Int32 × mG)} (hJ : F_X7_readCondition_L12 x1 s = some τ) (hC : (fun τ => r = (some (.int τ.1), (SH, τ.2))) τ) : Rn N xs (d + 4) me102 12 [some (.ref 55), some (.int x1), none] [] (SH, s) r :=
  whl_link (P := fun (v : (Int32 × mG)) => Rn N xs (d + 4) me102 12 [some (.ref 55), some (.int v.1), none] [] (SH, v.2) r) (C := (C_X7_readCondition_12 N xs d r (fun τ => r = (some (.int τ.1), (SH, τ.2))))) (fun v τ h1 h2 => k_X7_readCondition_B12 d h1 h2) (fun _ h => h) (fun _ h => h) _ _ hJ hC
def F_X7_readCondition (s : mG) : Option (Int32 × mG) :=
  let s1 : mG := (mu s.1 55 7 (ci 0), s.2)
  let s2 : mG := (mu s1.1 55 8 (ci 0), s1.2)
  F_X7_readCondition_L12 (ci 0) s2
set_option maxRecDepth 4000 in
theorem k_X7_readCondition_r {N : Nat} {xs : Nat → Int32} (d : Nat) {r : Option Value × mH} {s : mG} {τ : (Int32 × mG)} (hJ : F_X7_readCondition s = some τ) (hC : (fun τ => r = (some (.int τ.1), (SH, τ.2))) τ) : Rn N xs (d + 4) me102 0 [some (.ref 55), none, none] [] (SH, s) r := by
  unfold F_X7_readCondition at hJ
  extract_lets +onlyGivenNames s1 at hJ
  extract_lets +onlyGivenNames s2 at hJ
  refine Rn_sq srt102 0 8 (pc' := 12) (ls' := [some (.ref 55), some (.int (ci 0)), none]) (st' := []) (h1 := (SH, s2)) rfl ?_
  exact (k_X7_readCondition_L12 d hJ hC)
theorem k_X7_readCondition {N : Nat} {xs : Nat → Int32} (d : Nat) {s : mG} {τ : (Int32 × mG)} (hJ : F_X7_readCondition s = some τ) : Rn N xs (d + 4) me102 0 [some (.ref 55), none, none] [] (SH, s) (some (.int τ.1), (SH, τ.2)) := k_X7_readCondition_r d hJ rfl
/-! IsHeIn$Reader.readLaw()Z -/
theorem srt96 : m_srt mc96 = true := by decide +kernel
def F_X7_readLaw_126 (x1 : Int32) (s : mG) : Option (Int32 × mG) :=
  b1 (F_X10_put 56 x1 (ci 3) (s.1 58 3) s) fun s36 =>
  b2 (F_X7_pass (c8 59) s36) fun v39 s38 =>
  if v39 = 0 ∨ v39 = 1 then
    some (v39, s38)
  else none
set_option maxRecDepth 4000 in
theorem k_X7_readLaw_126 {N : Nat} {xs : Nat → Int32} (d : Nat) {r : Option Value × mH} {s : mG} {x1 : Int32} {τ : (Int32 × mG)} (hJ : F_X7_readLaw_126 x1 s = some τ) (hC : (fun τ => r = (some (.int τ.1), (SH, τ.2))) τ) : Rn N xs (d + 5) me96 126 [some (.ref 55), some (.int x1)] [] (SH, s) r := by
  unfold F_X7_readLaw_126 at hJ
  refine Rn_sq srt96 64 7 (pc' := 139) (ls' := [some (.ref 55), some (.int x1)]) (st' := [(.int (s.1 58 3)), (.int (ci 3)), (.int x1), (.ref 56)]) (h1 := (SH, s)) rfl ?_
  obtain ⟨s36, h35, hJ⟩ := m_b1 hJ
  refine Rn_call srt96 71 rfl rfl rfl ⟨Nat.le_of_ble_eq_true rfl, Nat.le_of_ble_eq_true rfl, rfl, Nat.le_of_ble_eq_true rfl⟩ (k_X10_put 56 (d + 4) isT_56 h35) (show Rn N xs (d + 5) me96 142 [some (.ref 55), some (.int x1)] [] (SH, s36) r from ?_)
  refine Rn_sq srt96 72 2 (pc' := 145) (ls' := [some (.ref 55), some (.int x1)]) (st' := [(.int (c8 59)), (.ref 55)]) (h1 := (SH, s36)) rfl ?_
  obtain ⟨v39, s38, h37, hJ⟩ := m_b2 hJ
  refine Rn_call srt96 74 rfl rfl rfl ⟨Nat.le_of_ble_eq_true rfl, Nat.le_of_ble_eq_true rfl, rfl, Nat.le_of_ble_eq_true rfl⟩ (k_X7_pass (d + 2) h37) (show Rn N xs (d + 5) me96 148 [some (.ref 55), some (.int x1)] [(.int v39)] (SH, s38) r from ?_)
  obtain ⟨h40, hJ⟩ := m_gp hJ
  rw [← Option.some.inj hJ] at hC
  have hC : r = (some (.int v39), (SH, s38)) := hC
  subst hC
  exact Rn_ret srt96 75 rfl rfl (m_ret_b rfl h40)
def F_X7_readLaw (s : mG) : Option (Int32 × mG) :=
  b1 (F_X11_isWithin s (s.1 55 14) (c16 256) (c16 261)) fun v2 =>
  if v2 = 0 then
    b2 (F_X7_refuse (ci 1) s) fun v6 s5 =>
    if v6 = 0 ∨ v6 = 1 then
      some (v6, s5)
    else none
  else
    b2 (F_X10_add 56 s) fun v10 s9 =>
    if v10 = (ci (-1)) then
      b2 (F_X7_refuse (ci 3) s9) fun v14 s13 =>
      if v14 = 0 ∨ v14 = 1 then
        some (v14, s13)
      else none
    else
      b1 (F_X10_put 56 v10 (ci 0) ((s9.1 55 14) - (c16 256)) s9) fun s17 =>
      b1 (F_X10_put 56 v10 (ci 1) (s17.1 58 3) s17) fun s19 =>
      b1 (F_X7_stepOn s19) fun s21 =>
      b2 (F_X7_readSum s21) fun v24 s23 =>
      if v24 = 0 then
        some ((ci 0), s23)
      else
        b1 (F_X10_put 56 v10 (ci 2) (s23.1 58 3) s23) fun s27 =>
        if (s27.1 55 14) = (c16 271) then
          b1 (F_X7_stepOn s27) fun s30 =>
          b2 (F_X7_readCondition s30) fun v33 s32 =>
          if v33 = 0 then
            some ((ci 0), s32)
          else
            F_X7_readLaw_126 v10 s32
        else
          F_X7_readLaw_126 v10 s27
set_option maxRecDepth 4000 in
theorem k_X7_readLaw_r {N : Nat} {xs : Nat → Int32} (d : Nat) {r : Option Value × mH} {s : mG} {τ : (Int32 × mG)} (hJ : F_X7_readLaw s = some τ) (hC : (fun τ => r = (some (.int τ.1), (SH, τ.2))) τ) : Rn N xs (d + 5) me96 0 [some (.ref 55), none] [] (SH, s) r := by
  unfold F_X7_readLaw at hJ
  refine Rn_sq srt96 0 4 (pc' := 10) (ls' := [some (.ref 55), none]) (st' := [(.int (c16 261)), (.int (c16 256)), (.int (s.1 55 14))]) (h1 := (SH, s)) rfl ?_
  obtain ⟨v2, h1, hJ⟩ := m_b1 hJ
  refine Rn_call srt96 4 rfl rfl rfl ⟨Nat.le_of_ble_eq_true rfl, Nat.le_of_ble_eq_true rfl, rfl, Nat.le_of_ble_eq_true rfl⟩ (k_X11_isWithin (d + 4) h1) (show Rn N xs (d + 5) me96 13 [some (.ref 55), none] [(.int v2)] (SH, s) r from ?_)
  refine Rn_sq srt96 5 1 (pc' := (if v2 = 0 then 16 else 22)) (ls' := [some (.ref 55), none]) (st' := []) (h1 := (SH, s)) rfl (Rn_if (fun h3 => ?_) (fun h3 => ?_))
  · replace hJ := m_ifp h3 hJ
    refine Rn_sq srt96 6 2 (pc' := 18) (ls' := [some (.ref 55), none]) (st' := [(.int (ci 1)), (.ref 55)]) (h1 := (SH, s)) rfl ?_
    obtain ⟨v6, s5, h4, hJ⟩ := m_b2 hJ
    refine Rn_call srt96 8 rfl rfl rfl ⟨Nat.le_of_ble_eq_true rfl, Nat.le_of_ble_eq_true rfl, rfl, Nat.le_of_ble_eq_true rfl⟩ (k_X7_refuse (d + 4) h4) (show Rn N xs (d + 5) me96 21 [some (.ref 55), none] [(.int v6)] (SH, s5) r from ?_)
    obtain ⟨h7, hJ⟩ := m_gp hJ
    rw [← Option.some.inj hJ] at hC
    have hC : r = (some (.int v6), (SH, s5)) := hC
    subst hC
    exact Rn_ret srt96 9 rfl rfl (m_ret_b rfl h7)
  · replace hJ := m_ifn h3 hJ
    refine Rn_sq srt96 10 2 (pc' := 26) (ls' := [some (.ref 55), none]) (st' := [(.ref 56)]) (h1 := (SH, s)) rfl ?_
    obtain ⟨v10, s9, h8, hJ⟩ := m_b2 hJ
    refine Rn_call srt96 12 rfl rfl rfl ⟨Nat.le_of_ble_eq_true rfl, Nat.le_of_ble_eq_true rfl, rfl, Nat.le_of_ble_eq_true rfl⟩ (k_X10_add 56 (d + 3) isT_56 h8) (show Rn N xs (d + 5) me96 29 [some (.ref 55), none] [(.int v10)] (SH, s9) r from ?_)
    refine Rn_sq srt96 13 4 (pc' := (if v10 = (ci (-1)) then 35 else 41)) (ls' := [some (.ref 55), some (.int v10)]) (st' := []) (h1 := (SH, s9)) rfl (Rn_if (fun h11 => ?_) (fun h11 => ?_))
    · replace hJ := m_ifp h11 hJ
      refine Rn_sq srt96 17 2 (pc' := 37) (ls' := [some (.ref 55), some (.int v10)]) (st' := [(.int (ci 3)), (.ref 55)]) (h1 := (SH, s9)) rfl ?_
      obtain ⟨v14, s13, h12, hJ⟩ := m_b2 hJ
      refine Rn_call srt96 19 rfl rfl rfl ⟨Nat.le_of_ble_eq_true rfl, Nat.le_of_ble_eq_true rfl, rfl, Nat.le_of_ble_eq_true rfl⟩ (k_X7_refuse (d + 4) h12) (show Rn N xs (d + 5) me96 40 [some (.ref 55), some (.int v10)] [(.int v14)] (SH, s13) r from ?_)
      obtain ⟨h15, hJ⟩ := m_gp hJ
      rw [← Option.some.inj hJ] at hC
      have hC : r = (some (.int v14), (SH, s13)) := hC
      subst hC
      exact Rn_ret srt96 20 rfl rfl (m_ret_b rfl h15)
    · replace hJ := m_ifn h11 hJ
      refine Rn_sq srt96 21 8 (pc' := 55) (ls' := [some (.ref 55), some (.int v10)]) (st' := [(.int ((s9.1 55 14) - (c16 256))), (.int (ci 0)), (.int v10), (.ref 56)]) (h1 := (SH, s9)) rfl ?_
      obtain ⟨s17, h16, hJ⟩ := m_b1 hJ
      refine Rn_call srt96 29 rfl rfl rfl ⟨Nat.le_of_ble_eq_true rfl, Nat.le_of_ble_eq_true rfl, rfl, Nat.le_of_ble_eq_true rfl⟩ (k_X10_put 56 (d + 4) isT_56 h16) (show Rn N xs (d + 5) me96 58 [some (.ref 55), some (.int v10)] [] (SH, s17) r from ?_)
      refine Rn_sq srt96 30 7 (pc' := 71) (ls' := [some (.ref 55), some (.int v10)]) (st' := [(.int (s17.1 58 3)), (.int (ci 1)), (.int v10), (.ref 56)]) (h1 := (SH, s17)) rfl ?_
      obtain ⟨s19, h18, hJ⟩ := m_b1 hJ
      refine Rn_call srt96 37 rfl rfl rfl ⟨Nat.le_of_ble_eq_true rfl, Nat.le_of_ble_eq_true rfl, rfl, Nat.le_of_ble_eq_true rfl⟩ (k_X10_put 56 (d + 4) isT_56 h18) (show Rn N xs (d + 5) me96 74 [some (.ref 55), some (.int v10)] [] (SH, s19) r from ?_)
      refine Rn_sq srt96 38 1 (pc' := 75) (ls' := [some (.ref 55), some (.int v10)]) (st' := [(.ref 55)]) (h1 := (SH, s19)) rfl ?_
      obtain ⟨s21, h20, hJ⟩ := m_b1 hJ
      refine Rn_call srt96 39 rfl rfl rfl ⟨Nat.le_of_ble_eq_true rfl, Nat.le_of_ble_eq_true rfl, rfl, Nat.le_of_ble_eq_true rfl⟩ (k_X7_stepOn (d + 3) h20) (show Rn N xs (d + 5) me96 78 [some (.ref 55), some (.int v10)] [] (SH, s21) r from ?_)
      refine Rn_sq srt96 40 1 (pc' := 79) (ls' := [some (.ref 55), some (.int v10)]) (st' := [(.ref 55)]) (h1 := (SH, s21)) rfl ?_
      obtain ⟨v24, s23, h22, hJ⟩ := m_b2 hJ
      refine Rn_call srt96 41 rfl rfl rfl ⟨Nat.le_of_ble_eq_true rfl, Nat.le_of_ble_eq_true rfl, rfl, Nat.le_of_ble_eq_true rfl⟩ (k_X7_readSum (d + 1) h22) (show Rn N xs (d + 5) me96 82 [some (.ref 55), some (.int v10)] [(.int v24)] (SH, s23) r from ?_)
      refine Rn_sq srt96 42 1 (pc' := (if v24 = 0 then 85 else 87)) (ls' := [some (.ref 55), some (.int v10)]) (st' := []) (h1 := (SH, s23)) rfl (Rn_if (fun h25 => ?_) (fun h25 => ?_))
      · replace hJ := m_ifp h25 hJ
        refine Rn_sq srt96 43 1 (pc' := 86) (ls' := [some (.ref 55), some (.int v10)]) (st' := [(.int (ci 0))]) (h1 := (SH, s23)) rfl ?_
        rw [← Option.some.inj hJ] at hC
        have hC : r = (some (.int (ci 0)), (SH, s23)) := hC
        subst hC
        exact Rn_ret srt96 44 rfl rfl (m_ret_b rfl (by decide))
      · replace hJ := m_ifn h25 hJ
        refine Rn_sq srt96 45 7 (pc' := 100) (ls' := [some (.ref 55), some (.int v10)]) (st' := [(.int (s23.1 58 3)), (.int (ci 2)), (.int v10), (.ref 56)]) (h1 := (SH, s23)) rfl ?_
        obtain ⟨s27, h26, hJ⟩ := m_b1 hJ
        refine Rn_call srt96 52 rfl rfl rfl ⟨Nat.le_of_ble_eq_true rfl, Nat.le_of_ble_eq_true rfl, rfl, Nat.le_of_ble_eq_true rfl⟩ (k_X10_put 56 (d + 4) isT_56 h26) (show Rn N xs (d + 5) me96 103 [some (.ref 55), some (.int v10)] [] (SH, s27) r from ?_)
        refine Rn_sq srt96 53 4 (pc' := (if (s27.1 55 14) = (c16 271) then 113 else 126)) (ls' := [some (.ref 55), some (.int v10)]) (st' := []) (h1 := (SH, s27)) rfl (Rn_if (fun h28 => ?_) (fun h28 => ?_))
        · replace hJ := m_ifp h28 hJ
          refine Rn_sq srt96 57 1 (pc' := 114) (ls' := [some (.ref 55), some (.int v10)]) (st' := [(.ref 55)]) (h1 := (SH, s27)) rfl ?_
          obtain ⟨s30, h29, hJ⟩ := m_b1 hJ
          refine Rn_call srt96 58 rfl rfl rfl ⟨Nat.le_of_ble_eq_true rfl, Nat.le_of_ble_eq_true rfl, rfl, Nat.le_of_ble_eq_true rfl⟩ (k_X7_stepOn (d + 3) h29) (show Rn N xs (d + 5) me96 117 [some (.ref 55), some (.int v10)] [] (SH, s30) r from ?_)
          refine Rn_sq srt96 59 1 (pc' := 118) (ls' := [some (.ref 55), some (.int v10)]) (st' := [(.ref 55)]) (h1 := (SH, s30)) rfl ?_
          obtain ⟨v33, s32, h31, hJ⟩ := m_b2 hJ
          refine Rn_call srt96 60 rfl rfl rfl ⟨Nat.le_of_ble_eq_true rfl, Nat.le_of_ble_eq_true rfl, rfl, Nat.le_of_ble_eq_true rfl⟩ (k_X7_readCondition (d) h31) (show Rn N xs (d + 5) me96 121 [some (.ref 55), some (.int v10)] [(.int v33)] (SH, s32) r from ?_)
          refine Rn_sq srt96 61 1 (pc' := (if v33 = 0 then 124 else 126)) (ls' := [some (.ref 55), some (.int v10)]) (st' := []) (h1 := (SH, s32)) rfl (Rn_if (fun h34 => ?_) (fun h34 => ?_))
          · replace hJ := m_ifp h34 hJ
            refine Rn_sq srt96 62 1 (pc' := 125) (ls' := [some (.ref 55), some (.int v10)]) (st' := [(.int (ci 0))]) (h1 := (SH, s32)) rfl ?_
            rw [← Option.some.inj hJ] at hC
            have hC : r = (some (.int (ci 0)), (SH, s32)) := hC
            subst hC
            exact Rn_ret srt96 63 rfl rfl (m_ret_b rfl (by decide))
          · replace hJ := m_ifn h34 hJ
            exact (k_X7_readLaw_126 d hJ hC)
        · replace hJ := m_ifn h28 hJ
          exact (k_X7_readLaw_126 d hJ hC)
theorem k_X7_readLaw {N : Nat} {xs : Nat → Int32} (d : Nat) {s : mG} {τ : (Int32 × mG)} (hJ : F_X7_readLaw s = some τ) : Rn N xs (d + 5) me96 0 [some (.ref 55), none] [] (SH, s) (some (.int τ.1), (SH, τ.2)) := k_X7_readLaw_r d hJ rfl
/-! IsHeIn$Reader.readText(I)Z -/
theorem srt78 : m_srt mc78 = true := by decide +kernel
def F_X7_readText_19 (s : mG) : Option (Int32 × mG) :=
  some ((ci 0), s)
set_option maxRecDepth 4000 in
theorem k_X7_readText_19 {N : Nat} {xs : Nat → Int32} (d : Nat) {r : Option Value × mH} {s : mG} {τ : (Int32 × mG)} (hJ : F_X7_readText_19 s = some τ) (hC : (fun τ => r = (some (.int τ.1), (SH, τ.2))) τ) : Rn N xs (d + 8) me78 19 [none, none, none, none] [] (SH, s) r := by
  unfold F_X7_readText_19 at hJ
  refine Rn_sq srt78 11 1 (pc' := 20) (ls' := [none, none, none, none]) (st' := [(.int (ci 0))]) (h1 := (SH, s)) rfl ?_
  rw [← Option.some.inj hJ] at hC
  have hC : r = (some (.int (ci 0)), (SH, s)) := hC
  subst hC
  exact Rn_ret srt78 12 rfl rfl (m_ret_b rfl (by decide))
def C_X7_readText_64 (N : Nat) (xs : Nat → Int32) (d : Nat) (r : Option Value × mH) (C : (Int32 × mG) → Prop) : ((Int32 × Int32 × mG) ⊕ (Int32 × mG)) → Prop
  | .inl v => Rn N xs (d + 8) me78 64 [some (.ref 55), some (.int v.1), some (.int v.2.1), none] [] (SH, v.2.2) r
  | .inr a => C a
def F_X7_readText_119 (s : mG) : Option (Int32 × mG) :=
  some ((ci 1), s)
set_option maxRecDepth 4000 in
theorem k_X7_readText_119 {N : Nat} {xs : Nat → Int32} (d : Nat) {r : Option Value × mH} {s : mG} {τ : (Int32 × mG)} (hJ : F_X7_readText_119 s = some τ) (hC : (fun τ => r = (some (.int τ.1), (SH, τ.2))) τ) : Rn N xs (d + 8) me78 119 [none, none, none, none] [] (SH, s) r := by
  unfold F_X7_readText_119 at hJ
  refine Rn_sq srt78 61 1 (pc' := 120) (ls' := [none, none, none, none]) (st' := [(.int (ci 1))]) (h1 := (SH, s)) rfl ?_
  rw [← Option.some.inj hJ] at hC
  have hC : r = (some (.int (ci 1)), (SH, s)) := hC
  subst hC
  exact Rn_ret srt78 62 rfl rfl (m_ret_b rfl (by decide))
def F_X7_readText_106 (x1 : Int32) (x2 : Int32) (y0 : Int32) (s : mG) : Option ((Int32 × Int32 × mG) ⊕ (Int32 × mG)) :=
  if y0 = 0 then
    some (Sum.inr ((ci 0), s))
  else
    some (Sum.inl (x1, (x2 + ci 1), s))
set_option maxRecDepth 4000 in
theorem k_X7_readText_106 {N : Nat} {xs : Nat → Int32} (d : Nat) {r : Option Value × mH} {s : mG} {x1 : Int32} {x2 : Int32} {y0 : Int32} {τ : ((Int32 × Int32 × mG) ⊕ (Int32 × mG))} (hJ : F_X7_readText_106 x1 x2 y0 s = some τ) (hC : (C_X7_readText_64 N xs d r (fun τ => r = (some (.int τ.1), (SH, τ.2)))) τ) : Rn N xs (d + 8) me78 106 [some (.ref 55), some (.int x1), some (.int x2), none] [(.int y0)] (SH, s) r := by
  unfold F_X7_readText_106 at hJ
  refine Rn_sq srt78 54 3 (pc' := (if y0 = 0 then 111 else 113)) (ls' := [some (.ref 55), some (.int x1), some (.int x2), some (.int y0)]) (st' := []) (h1 := (SH, s)) rfl (Rn_if (fun h24 => ?_) (fun h24 => ?_))
  · replace hJ := m_ifp h24 hJ
    refine Rn_sq srt78 57 1 (pc' := 112) (ls' := [some (.ref 55), some (.int x1), some (.int x2), some (.int y0)]) (st' := [(.int (ci 0))]) (h1 := (SH, s)) rfl ?_
    rw [← Option.some.inj hJ] at hC
    have hC : r = (some (.int (ci 0)), (SH, s)) := hC
    subst hC
    exact Rn_ret srt78 58 rfl rfl (m_ret_b rfl (by decide))
  · replace hJ := m_ifn h24 hJ
    refine Rn_sq srt78 59 2 (pc' := 64) (ls' := [some (.ref 55), some (.int x1), some (.int (x2 + ci 1)), some (.int y0)]) (st' := []) (h1 := (SH, s)) rfl ?_
    rw [← Option.some.inj hJ] at hC
    exact Rn_weaken (a := [some (.ref 55), some (.int x1), some (.int (x2 + ci 1)), none]) (b := [some (.ref 55), some (.int x1), some (.int (x2 + ci 1)), some (.int y0)]) (And.intro rfl (And.intro rfl (And.intro rfl trivial))) rfl hC
def F_X7_readText_B64 (x1 : Int32) (x2 : Int32) (s : mG) : Option ((Int32 × Int32 × mG) ⊕ (Int32 × mG)) :=
  if (c16 400) ≤ x2 then
    b1 (F_X7_readText_119 s) fun τ => some (Sum.inr τ)
  else
    if (s.1 55 14) = (ci (-1)) then
      b1 (F_X7_readText_119 s) fun τ => some (Sum.inr τ)
    else
      if x1 = 0 then
        b2 (F_X7_readLaw s) fun v23 s22 =>
        F_X7_readText_106 x1 x2 v23 s22
      else
        if x1 = (ci 1) then
          b2 (F_X7_readSign s) fun v28 s27 =>
          F_X7_readText_106 x1 x2 v28 s27
        else
          b2 (F_X7_readShift s) fun v31 s30 =>
          F_X7_readText_106 x1 x2 v31 s30
set_option maxRecDepth 4000 in
theorem k_X7_readText_B64 {N : Nat} {xs : Nat → Int32} (d : Nat) {r : Option Value × mH} {s : mG} {x1 : Int32} {x2 : Int32} {τ : ((Int32 × Int32 × mG) ⊕ (Int32 × mG))} (hJ : F_X7_readText_B64 x1 x2 s = some τ) (hC : (C_X7_readText_64 N xs d r (fun τ => r = (some (.int τ.1), (SH, τ.2)))) τ) : Rn N xs (d + 8) me78 64 [some (.ref 55), some (.int x1), some (.int x2), none] [] (SH, s) r := by
  unfold F_X7_readText_B64 at hJ
  refine Rn_sq srt78 34 3 (pc' := (if (c16 400) ≤ x2 then 119 else 71)) (ls' := [some (.ref 55), some (.int x1), some (.int x2), none]) (st' := []) (h1 := (SH, s)) rfl (Rn_if (fun h18 => ?_) (fun h18 => ?_))
  · replace hJ := m_ifp h18 hJ
    obtain ⟨τ1, hJ1, hJ⟩ := m_b1 hJ
    rw [← Option.some.inj hJ] at hC
    exact Rn_weaken (a := [none, none, none, none]) (b := [some (.ref 55), some (.int x1), some (.int x2), none]) trivial rfl (k_X7_readText_119 d hJ1 hC)
  · replace hJ := m_ifn h18 hJ
    refine Rn_sq srt78 37 4 (pc' := (if (s.1 55 14) = (ci (-1)) then 119 else 79)) (ls' := [some (.ref 55), some (.int x1), some (.int x2), none]) (st' := []) (h1 := (SH, s)) rfl (Rn_if (fun h19 => ?_) (fun h19 => ?_))
    · replace hJ := m_ifp h19 hJ
      obtain ⟨τ1, hJ1, hJ⟩ := m_b1 hJ
      rw [← Option.some.inj hJ] at hC
      exact Rn_weaken (a := [none, none, none, none]) (b := [some (.ref 55), some (.int x1), some (.int x2), none]) trivial rfl (k_X7_readText_119 d hJ1 hC)
    · replace hJ := m_ifn h19 hJ
      refine Rn_sq srt78 41 2 (pc' := (if x1 = 0 then 83 else 90)) (ls' := [some (.ref 55), some (.int x1), some (.int x2), none]) (st' := []) (h1 := (SH, s)) rfl (Rn_if (fun h20 => ?_) (fun h20 => ?_))
      · replace hJ := m_ifp h20 hJ
        refine Rn_sq srt78 43 1 (pc' := 84) (ls' := [some (.ref 55), some (.int x1), some (.int x2), none]) (st' := [(.ref 55)]) (h1 := (SH, s)) rfl ?_
        obtain ⟨v23, s22, h21, hJ⟩ := m_b2 hJ
        refine Rn_call srt78 44 rfl rfl rfl ⟨Nat.le_of_ble_eq_true rfl, Nat.le_of_ble_eq_true rfl, rfl, Nat.le_of_ble_eq_true rfl⟩ (k_X7_readLaw (d + 2) h21) (show Rn N xs (d + 8) me78 87 [some (.ref 55), some (.int x1), some (.int x2), none] [(.int v23)] (SH, s22) r from ?_)
        refine Rn_sq srt78 45 1 (pc' := 106) (ls' := [some (.ref 55), some (.int x1), some (.int x2), none]) (st' := [(.int v23)]) (h1 := (SH, s22)) rfl ?_
        exact (k_X7_readText_106 d hJ hC)
      · replace hJ := m_ifn h20 hJ
        refine Rn_sq srt78 46 3 (pc' := (if x1 = (ci 1) then 95 else 102)) (ls' := [some (.ref 55), some (.int x1), some (.int x2), none]) (st' := []) (h1 := (SH, s)) rfl (Rn_if (fun h25 => ?_) (fun h25 => ?_))
        · replace hJ := m_ifp h25 hJ
          refine Rn_sq srt78 49 1 (pc' := 96) (ls' := [some (.ref 55), some (.int x1), some (.int x2), none]) (st' := [(.ref 55)]) (h1 := (SH, s)) rfl ?_
          obtain ⟨v28, s27, h26, hJ⟩ := m_b2 hJ
          refine Rn_call srt78 50 rfl rfl rfl ⟨Nat.le_of_ble_eq_true rfl, Nat.le_of_ble_eq_true rfl, rfl, Nat.le_of_ble_eq_true rfl⟩ (k_X7_readSign (d + 3) h26) (show Rn N xs (d + 8) me78 99 [some (.ref 55), some (.int x1), some (.int x2), none] [(.int v28)] (SH, s27) r from ?_)
          refine Rn_sq srt78 51 1 (pc' := 106) (ls' := [some (.ref 55), some (.int x1), some (.int x2), none]) (st' := [(.int v28)]) (h1 := (SH, s27)) rfl ?_
          exact (k_X7_readText_106 d hJ hC)
        · replace hJ := m_ifn h25 hJ
          refine Rn_sq srt78 52 1 (pc' := 103) (ls' := [some (.ref 55), some (.int x1), some (.int x2), none]) (st' := [(.ref 55)]) (h1 := (SH, s)) rfl ?_
          obtain ⟨v31, s30, h29, hJ⟩ := m_b2 hJ
          refine Rn_call srt78 53 rfl rfl rfl ⟨Nat.le_of_ble_eq_true rfl, Nat.le_of_ble_eq_true rfl, rfl, Nat.le_of_ble_eq_true rfl⟩ (k_X7_readShift (d + 3) h29) (show Rn N xs (d + 8) me78 106 [some (.ref 55), some (.int x1), some (.int x2), none] [(.int v31)] (SH, s30) r from ?_)
          exact (k_X7_readText_106 d hJ hC)
def F_X7_readText_L64 (x1 : Int32) (x2 : Int32) (s : mG) : Option (Int32 × mG) := whl (fun (v : (Int32 × Int32 × mG)) => F_X7_readText_B64 v.1 v.2.1 v.2.2) (x1, x2, s)
theorem k_X7_readText_L64 {N : Nat} {xs : Nat → Int32} (d : Nat) {r : Option Value × mH} {s : mG} {x1 : Int32} {x2 : Int32} {τ : (Int32 × mG)} (hJ : F_X7_readText_L64 x1 x2 s = some τ) (hC : (fun τ => r = (some (.int τ.1), (SH, τ.2))) τ) : Rn N xs (d + 8) me78 64 [some (.ref 55), some (.int x1), some (.int x2), none] [] (SH, s) r :=
  whl_link (P := fun (v : (Int32 × Int32 × mG)) => Rn N xs (d + 8) me78 64 [some (.ref 55), some (.int v.1), some (.int v.2.1), none] [] (SH, v.2.2) r) (C := (C_X7_readText_64 N xs d r (fun τ => r = (some (.int τ.1), (SH, τ.2))))) (fun v τ h1 h2 => k_X7_readText_B64 d h1 h2) (fun _ h => h) (fun _ h => h) _ _ hJ hC
def F_X7_readText (a1 : Int32) (s : mG) : Option (Int32 × mG) :=
  let s1 : mG := (mu s.1 55 10 (ci 0), s.2)
  let s2 : mG := (mu s1.1 55 11 (ci (-1)), s1.2)
  if a1 < 0 then
    F_X7_readText_19 s2
  else
    if a1 ≤ (ci 2) then
      b1 (F_X7_splitTape s2) fun s6 =>
      b1 (F_X10_clear 56 s6) fun s8 =>
      b1 (F_X10_clear 58 s8) fun s10 =>
      b1 (F_X10_clear 60 s10) fun s12 =>
      b1 (F_X10_clear 62 s12) fun s14 =>
      let s15 : mG := (mu s14.1 55 12 (ci (-1)), s14.2)
      b1 (F_X7_stepOn s15) fun s17 =>
      F_X7_readText_L64 a1 (ci 0) s17
    else
      F_X7_readText_19 s2
set_option maxRecDepth 4000 in
theorem k_X7_readText_r {N : Nat} {xs : Nat → Int32} (d : Nat) {r : Option Value × mH} {s : mG} {a1 : Int32} {τ : (Int32 × mG)} (hJ : F_X7_readText a1 s = some τ) (hC : (fun τ => r = (some (.int τ.1), (SH, τ.2))) τ) : Rn N xs (d + 8) me78 0 [some (.ref 55), some (.int a1), none, none] [] (SH, s) r := by
  unfold F_X7_readText at hJ
  extract_lets +onlyGivenNames s1 at hJ
  extract_lets +onlyGivenNames s2 at hJ
  refine Rn_sq srt78 0 8 (pc' := (if a1 < 0 then 19 else 14)) (ls' := [some (.ref 55), some (.int a1), none, none]) (st' := []) (h1 := (SH, s2)) rfl (Rn_if (fun h3 => ?_) (fun h3 => ?_))
  · replace hJ := m_ifp h3 hJ
    exact Rn_weaken (a := [none, none, none, none]) (b := [some (.ref 55), some (.int a1), none, none]) trivial rfl (k_X7_readText_19 d hJ hC)
  · replace hJ := m_ifn h3 hJ
    refine Rn_sq srt78 8 3 (pc' := (if a1 ≤ (ci 2) then 21 else 19)) (ls' := [some (.ref 55), some (.int a1), none, none]) (st' := []) (h1 := (SH, s2)) rfl (Rn_if (fun h4 => ?_) (fun h4 => ?_))
    · replace hJ := m_ifp h4 hJ
      refine Rn_sq srt78 13 1 (pc' := 22) (ls' := [some (.ref 55), some (.int a1), none, none]) (st' := [(.ref 55)]) (h1 := (SH, s2)) rfl ?_
      obtain ⟨s6, h5, hJ⟩ := m_b1 hJ
      refine Rn_call srt78 14 rfl rfl rfl ⟨Nat.le_of_ble_eq_true rfl, Nat.le_of_ble_eq_true rfl, rfl, Nat.le_of_ble_eq_true rfl⟩ (k_X7_splitTape (d) h5) (show Rn N xs (d + 8) me78 25 [some (.ref 55), some (.int a1), none, none] [] (SH, s6) r from ?_)
      refine Rn_sq srt78 15 2 (pc' := 29) (ls' := [some (.ref 55), some (.int a1), none, none]) (st' := [(.ref 56)]) (h1 := (SH, s6)) rfl ?_
      obtain ⟨s8, h7, hJ⟩ := m_b1 hJ
      refine Rn_call srt78 17 rfl rfl rfl ⟨Nat.le_of_ble_eq_true rfl, Nat.le_of_ble_eq_true rfl, rfl, Nat.le_of_ble_eq_true rfl⟩ (k_X10_clear 56 (d + 7) isT_56 h7) (show Rn N xs (d + 8) me78 32 [some (.ref 55), some (.int a1), none, none] [] (SH, s8) r from ?_)
      refine Rn_sq srt78 18 2 (pc' := 36) (ls' := [some (.ref 55), some (.int a1), none, none]) (st' := [(.ref 58)]) (h1 := (SH, s8)) rfl ?_
      obtain ⟨s10, h9, hJ⟩ := m_b1 hJ
      refine Rn_call srt78 20 rfl rfl rfl ⟨Nat.le_of_ble_eq_true rfl, Nat.le_of_ble_eq_true rfl, rfl, Nat.le_of_ble_eq_true rfl⟩ (k_X10_clear 58 (d + 7) isT_58 h9) (show Rn N xs (d + 8) me78 39 [some (.ref 55), some (.int a1), none, none] [] (SH, s10) r from ?_)
      refine Rn_sq srt78 21 2 (pc' := 43) (ls' := [some (.ref 55), some (.int a1), none, none]) (st' := [(.ref 60)]) (h1 := (SH, s10)) rfl ?_
      obtain ⟨s12, h11, hJ⟩ := m_b1 hJ
      refine Rn_call srt78 23 rfl rfl rfl ⟨Nat.le_of_ble_eq_true rfl, Nat.le_of_ble_eq_true rfl, rfl, Nat.le_of_ble_eq_true rfl⟩ (k_X10_clear 60 (d + 7) isT_60 h11) (show Rn N xs (d + 8) me78 46 [some (.ref 55), some (.int a1), none, none] [] (SH, s12) r from ?_)
      refine Rn_sq srt78 24 2 (pc' := 50) (ls' := [some (.ref 55), some (.int a1), none, none]) (st' := [(.ref 62)]) (h1 := (SH, s12)) rfl ?_
      obtain ⟨s14, h13, hJ⟩ := m_b1 hJ
      refine Rn_call srt78 26 rfl rfl rfl ⟨Nat.le_of_ble_eq_true rfl, Nat.le_of_ble_eq_true rfl, rfl, Nat.le_of_ble_eq_true rfl⟩ (k_X10_clear 62 (d + 7) isT_62 h13) (show Rn N xs (d + 8) me78 53 [some (.ref 55), some (.int a1), none, none] [] (SH, s14) r from ?_)
      extract_lets +onlyGivenNames s15 at hJ
      refine Rn_sq srt78 27 4 (pc' := 59) (ls' := [some (.ref 55), some (.int a1), none, none]) (st' := [(.ref 55)]) (h1 := (SH, s15)) rfl ?_
      obtain ⟨s17, h16, hJ⟩ := m_b1 hJ
      refine Rn_call srt78 31 rfl rfl rfl ⟨Nat.le_of_ble_eq_true rfl, Nat.le_of_ble_eq_true rfl, rfl, Nat.le_of_ble_eq_true rfl⟩ (k_X7_stepOn (d + 6) h16) (show Rn N xs (d + 8) me78 62 [some (.ref 55), some (.int a1), none, none] [] (SH, s17) r from ?_)
      refine Rn_sq srt78 32 2 (pc' := 64) (ls' := [some (.ref 55), some (.int a1), some (.int (ci 0)), none]) (st' := []) (h1 := (SH, s17)) rfl ?_
      exact (k_X7_readText_L64 d hJ hC)
    · replace hJ := m_ifn h4 hJ
      exact Rn_weaken (a := [none, none, none, none]) (b := [some (.ref 55), some (.int a1), none, none]) trivial rfl (k_X7_readText_19 d hJ hC)
theorem k_X7_readText {N : Nat} {xs : Nat → Int32} (d : Nat) {s : mG} {a1 : Int32} {τ : (Int32 × mG)} (hJ : F_X7_readText a1 s = some τ) : Rn N xs (d + 8) me78 0 [some (.ref 55), some (.int a1), none, none] [] (SH, s) (some (.int τ.1), (SH, τ.2)) := k_X7_readText_r d hJ rfl
/-! IsHeIn$Records.hangsWrong(I)Z -/
theorem srt111 : m_srt mc111 = true := by decide +kernel
def F_X8_hangsWrong_27 (s : mG) : Option (Int32) :=
  some (ci 0)
set_option maxRecDepth 4000 in
theorem k_X8_hangsWrong_27 {N : Nat} {xs : Nat → Int32} (d : Nat) {r : Option Value × mH} {s : mG} {τ : (Int32)} (hJ : F_X8_hangsWrong_27 s = some τ) (hC : (fun τ => r = (some (.int τ), (SH, s))) τ) : Rn N xs (d + 1) me111 27 [none, none, none] [] (SH, s) r := by
  unfold F_X8_hangsWrong_27 at hJ
  refine Rn_sq srt111 15 1 (pc' := 28) (ls' := [none, none, none]) (st' := [(.int (ci 0))]) (h1 := (SH, s)) rfl ?_
  rw [← Option.some.inj hJ] at hC
  have hC : r = (some (.int (ci 0)), (SH, s)) := hC
  subst hC
  exact Rn_ret srt111 16 rfl rfl (m_ret_b rfl (by decide))
def F_X8_hangsWrong (s : mG) (a1 : Int32) : Option (Int32) :=
  b1 (F_X10_at 2 s a1 (ci 3)) fun v2 =>
  if v2 = (ci (-1)) then
    F_X8_hangsWrong_27 s
  else
    if v2 = a1 then
      F_X8_hangsWrong_27 s
    else
      some (ci 1)
set_option maxRecDepth 4000 in
theorem k_X8_hangsWrong_r {N : Nat} {xs : Nat → Int32} (d : Nat) {r : Option Value × mH} {s : mG} {a1 : Int32} {τ : (Int32)} (hJ : F_X8_hangsWrong s a1 = some τ) (hC : (fun τ => r = (some (.int τ), (SH, s))) τ) : Rn N xs (d + 1) me111 0 [some (.ref 82), some (.int a1), none] [] (SH, s) r := by
  unfold F_X8_hangsWrong at hJ
  refine Rn_sq srt111 0 5 (pc' := 9) (ls' := [some (.ref 82), some (.int a1), none]) (st' := [(.int (ci 3)), (.int a1), (.ref 2)]) (h1 := (SH, s)) rfl ?_
  obtain ⟨v2, h1, hJ⟩ := m_b1 hJ
  refine Rn_call srt111 5 rfl rfl rfl ⟨Nat.le_of_ble_eq_true rfl, Nat.le_of_ble_eq_true rfl, rfl, Nat.le_of_ble_eq_true rfl⟩ (k_X10_at 2 (d) isT_2 h1) (show Rn N xs (d + 1) me111 12 [some (.ref 82), some (.int a1), none] [(.int v2)] (SH, s) r from ?_)
  refine Rn_sq srt111 6 4 (pc' := (if v2 = (ci (-1)) then 27 else 18)) (ls' := [some (.ref 82), some (.int a1), some (.int v2)]) (st' := []) (h1 := (SH, s)) rfl (Rn_if (fun h3 => ?_) (fun h3 => ?_))
  · replace hJ := m_ifp h3 hJ
    exact Rn_weaken (a := [none, none, none]) (b := [some (.ref 82), some (.int a1), some (.int v2)]) trivial rfl (k_X8_hangsWrong_27 d hJ hC)
  · replace hJ := m_ifn h3 hJ
    refine Rn_sq srt111 10 3 (pc' := (if v2 = a1 then 27 else 23)) (ls' := [some (.ref 82), some (.int a1), some (.int v2)]) (st' := []) (h1 := (SH, s)) rfl (Rn_if (fun h4 => ?_) (fun h4 => ?_))
    · replace hJ := m_ifp h4 hJ
      exact Rn_weaken (a := [none, none, none]) (b := [some (.ref 82), some (.int a1), some (.int v2)]) trivial rfl (k_X8_hangsWrong_27 d hJ hC)
    · replace hJ := m_ifn h4 hJ
      refine Rn_sq srt111 13 2 (pc' := 28) (ls' := [some (.ref 82), some (.int a1), some (.int v2)]) (st' := [(.int (ci 1))]) (h1 := (SH, s)) rfl ?_
      rw [← Option.some.inj hJ] at hC
      have hC : r = (some (.int (ci 1)), (SH, s)) := hC
      subst hC
      exact Rn_ret srt111 16 rfl rfl (m_ret_b rfl (by decide))
theorem k_X8_hangsWrong {N : Nat} {xs : Nat → Int32} (d : Nat) {s : mG} {a1 : Int32} {τ : (Int32)} (hJ : F_X8_hangsWrong s a1 = some τ) : Rn N xs (d + 1) me111 0 [some (.ref 82), some (.int a1), none] [] (SH, s) (some (.int τ), (SH, s)) := k_X8_hangsWrong_r d hJ rfl
/-! IsHeIn$Records.wrongHooks()I -/
theorem srt112 : m_srt mc112 = true := by decide +kernel
def C_X8_wrongHooks_4 (N : Nat) (xs : Nat → Int32) (s : mG) (d : Nat) (r : Option Value × mH) (C : (Int32) → Prop) : ((Int32 × Int32) ⊕ (Int32)) → Prop
  | .inl v => Rn N xs (d + 2) me112 4 [some (.ref 82), some (.int v.1), some (.int v.2)] [] (SH, s) r
  | .inr a => C a
def F_X8_wrongHooks_45 (s : mG) (x2 : Int32) (y0 : Int32) (y1 : Int32) : Option ((Int32 × Int32) ⊕ (Int32)) :=
  some (Sum.inl ((y0 ||| y1), (x2 + ci 1)))
set_option maxRecDepth 4000 in
theorem k_X8_wrongHooks_45 {N : Nat} {xs : Nat → Int32} (d : Nat) {r : Option Value × mH} {s : mG} {x2 : Int32} {y0 : Int32} {y1 : Int32} {τ : ((Int32 × Int32) ⊕ (Int32))} (hJ : F_X8_wrongHooks_45 s x2 y0 y1 = some τ) (hC : (C_X8_wrongHooks_4 N xs s d r (fun τ => r = (some (.int τ), (SH, s)))) τ) : Rn N xs (d + 2) me112 45 [some (.ref 82), none, some (.int x2)] [(.int y1), (.int y0)] (SH, s) r := by
  unfold F_X8_wrongHooks_45 at hJ
  refine Rn_sq srt112 25 4 (pc' := 4) (ls' := [some (.ref 82), some (.int (y0 ||| y1)), some (.int (x2 + ci 1))]) (st' := []) (h1 := (SH, s)) rfl ?_
  rw [← Option.some.inj hJ] at hC
  exact hC
def F_X8_wrongHooks_B4 (s : mG) (x1 : Int32) (x2 : Int32) : Option ((Int32 × Int32) ⊕ (Int32)) :=
  if (s.1 2 3) ≤ x2 then
    some (Sum.inr x1)
  else
    b1 (F_X8_hangsWrong s x2) fun v3 =>
    if v3 = 0 then
      F_X8_wrongHooks_45 s x2 x1 (ci 0)
    else
      b1 (F_X10_at 2 s x2 (ci 3)) fun v6 =>
      F_X8_wrongHooks_45 s x2 x1 ((ci 1) <<< (v6 &&& 31))
set_option maxRecDepth 4000 in
theorem k_X8_wrongHooks_B4 {N : Nat} {xs : Nat → Int32} (d : Nat) {r : Option Value × mH} {s : mG} {x1 : Int32} {x2 : Int32} {τ : ((Int32 × Int32) ⊕ (Int32))} (hJ : F_X8_wrongHooks_B4 s x1 x2 = some τ) (hC : (C_X8_wrongHooks_4 N xs s d r (fun τ => r = (some (.int τ), (SH, s)))) τ) : Rn N xs (d + 2) me112 4 [some (.ref 82), some (.int x1), some (.int x2)] [] (SH, s) r := by
  unfold F_X8_wrongHooks_B4 at hJ
  refine Rn_sq srt112 4 6 (pc' := (if (s.1 2 3) ≤ x2 then 53 else 18)) (ls' := [some (.ref 82), some (.int x1), some (.int x2)]) (st' := []) (h1 := (SH, s)) rfl (Rn_if (fun h1 => ?_) (fun h1 => ?_))
  · replace hJ := m_ifp h1 hJ
    refine Rn_sq srt112 29 1 (pc' := 54) (ls' := [some (.ref 82), some (.int x1), some (.int x2)]) (st' := [(.int x1)]) (h1 := (SH, s)) rfl ?_
    rw [← Option.some.inj hJ] at hC
    have hC : r = (some (.int x1), (SH, s)) := hC
    subst hC
    exact Rn_ret srt112 30 rfl rfl rfl
  · replace hJ := m_ifn h1 hJ
    refine Rn_sq srt112 10 3 (pc' := 21) (ls' := [some (.ref 82), some (.int x1), some (.int x2)]) (st' := [(.int x2), (.ref 82), (.int x1)]) (h1 := (SH, s)) rfl ?_
    obtain ⟨v3, h2, hJ⟩ := m_b1 hJ
    refine Rn_call srt112 13 rfl rfl rfl ⟨Nat.le_of_ble_eq_true rfl, Nat.le_of_ble_eq_true rfl, rfl, Nat.le_of_ble_eq_true rfl⟩ (k_X8_hangsWrong (d) h2) (show Rn N xs (d + 2) me112 24 [some (.ref 82), some (.int x1), some (.int x2)] [(.int v3), (.int x1)] (SH, s) r from ?_)
    refine Rn_sq srt112 14 1 (pc' := (if v3 = 0 then 44 else 27)) (ls' := [some (.ref 82), some (.int x1), some (.int x2)]) (st' := [(.int x1)]) (h1 := (SH, s)) rfl (Rn_if (fun h4 => ?_) (fun h4 => ?_))
    · replace hJ := m_ifp h4 hJ
      refine Rn_sq srt112 24 1 (pc' := 45) (ls' := [some (.ref 82), some (.int x1), some (.int x2)]) (st' := [(.int (ci 0)), (.int x1)]) (h1 := (SH, s)) rfl ?_
      exact Rn_weaken (a := [some (.ref 82), none, some (.int x2)]) (b := [some (.ref 82), some (.int x1), some (.int x2)]) (And.intro rfl (And.intro rfl trivial)) rfl (k_X8_wrongHooks_45 d hJ hC)
    · replace hJ := m_ifn h4 hJ
      refine Rn_sq srt112 15 6 (pc' := 37) (ls' := [some (.ref 82), some (.int x1), some (.int x2)]) (st' := [(.int (ci 3)), (.int x2), (.ref 2), (.int (ci 1)), (.int x1)]) (h1 := (SH, s)) rfl ?_
      obtain ⟨v6, h5, hJ⟩ := m_b1 hJ
      refine Rn_call srt112 21 rfl rfl rfl ⟨Nat.le_of_ble_eq_true rfl, Nat.le_of_ble_eq_true rfl, rfl, Nat.le_of_ble_eq_true rfl⟩ (k_X10_at 2 (d + 1) isT_2 h5) (show Rn N xs (d + 2) me112 40 [some (.ref 82), some (.int x1), some (.int x2)] [(.int v6), (.int (ci 1)), (.int x1)] (SH, s) r from ?_)
      refine Rn_sq srt112 22 2 (pc' := 45) (ls' := [some (.ref 82), some (.int x1), some (.int x2)]) (st' := [(.int ((ci 1) <<< (v6 &&& 31))), (.int x1)]) (h1 := (SH, s)) rfl ?_
      exact Rn_weaken (a := [some (.ref 82), none, some (.int x2)]) (b := [some (.ref 82), some (.int x1), some (.int x2)]) (And.intro rfl (And.intro rfl trivial)) rfl (k_X8_wrongHooks_45 d hJ hC)
def F_X8_wrongHooks_L4 (s : mG) (x1 : Int32) (x2 : Int32) : Option (Int32) := whl (fun (v : (Int32 × Int32)) => F_X8_wrongHooks_B4 s v.1 v.2) (x1, x2)
theorem k_X8_wrongHooks_L4 {N : Nat} {xs : Nat → Int32} (d : Nat) {r : Option Value × mH} {s : mG} {x1 : Int32} {x2 : Int32} {τ : (Int32)} (hJ : F_X8_wrongHooks_L4 s x1 x2 = some τ) (hC : (fun τ => r = (some (.int τ), (SH, s))) τ) : Rn N xs (d + 2) me112 4 [some (.ref 82), some (.int x1), some (.int x2)] [] (SH, s) r :=
  whl_link (P := fun (v : (Int32 × Int32)) => Rn N xs (d + 2) me112 4 [some (.ref 82), some (.int v.1), some (.int v.2)] [] (SH, s) r) (C := (C_X8_wrongHooks_4 N xs s d r (fun τ => r = (some (.int τ), (SH, s))))) (fun v τ h1 h2 => k_X8_wrongHooks_B4 d h1 h2) (fun _ h => h) (fun _ h => h) _ _ hJ hC
def F_X8_wrongHooks (s : mG) : Option (Int32) :=
  F_X8_wrongHooks_L4 s (ci 0) (ci 0)
set_option maxRecDepth 4000 in
theorem k_X8_wrongHooks_r {N : Nat} {xs : Nat → Int32} (d : Nat) {r : Option Value × mH} {s : mG} {τ : (Int32)} (hJ : F_X8_wrongHooks s = some τ) (hC : (fun τ => r = (some (.int τ), (SH, s))) τ) : Rn N xs (d + 2) me112 0 [some (.ref 82), none, none] [] (SH, s) r := by
  unfold F_X8_wrongHooks at hJ
  refine Rn_sq srt112 0 4 (pc' := 4) (ls' := [some (.ref 82), some (.int (ci 0)), some (.int (ci 0))]) (st' := []) (h1 := (SH, s)) rfl ?_
  exact (k_X8_wrongHooks_L4 d hJ hC)
theorem k_X8_wrongHooks {N : Nat} {xs : Nat → Int32} (d : Nat) {s : mG} {τ : (Int32)} (hJ : F_X8_wrongHooks s = some τ) : Rn N xs (d + 2) me112 0 [some (.ref 82), none, none] [] (SH, s) (some (.int τ), (SH, s)) := k_X8_wrongHooks_r d hJ rfl
/-! IsHeIn$Records.ringOf(I)I -/
theorem srt113 : m_srt mc113 = true := by decide +kernel
def C_X8_ringOf_7 (N : Nat) (xs : Nat → Int32) (s : mG) (d : Nat) (r : Option Value × mH) (C : (Int32) → Prop) : ((Int32 × Int32 × Int32 × Int32) ⊕ (Int32)) → Prop
  | .inl v => Rn N xs (d + 2) me113 7 [some (.ref 82), some (.int v.1), some (.int v.2.1), some (.int v.2.2.1), some (.int v.2.2.2)] [] (SH, s) r
  | .inr a => C a
def F_X8_ringOf_B7 (s : mG) (x1 : Int32) (x2 : Int32) (x3 : Int32) (x4 : Int32) : Option ((Int32 × Int32 × Int32 × Int32) ⊕ (Int32)) :=
  if (c8 12) ≤ x4 then
    some (Sum.inr (ci 0))
  else
    b1 (F_X8_hangsWrong s x3) fun v3 =>
    if v3 = 0 then
      some (Sum.inr (ci 0))
    else
      let v5 : Int32 := (x2 ||| ((ci 1) <<< (x3 &&& 31)))
      b1 (F_X10_at 2 s x3 (ci 3)) fun v7 =>
      if v7 = x1 then
        some (Sum.inr v5)
      else
        some (Sum.inl (x1, v5, v7, (x4 + ci 1)))
set_option maxRecDepth 4000 in
theorem k_X8_ringOf_B7 {N : Nat} {xs : Nat → Int32} (d : Nat) {r : Option Value × mH} {s : mG} {x1 : Int32} {x2 : Int32} {x3 : Int32} {x4 : Int32} {τ : ((Int32 × Int32 × Int32 × Int32) ⊕ (Int32))} (hJ : F_X8_ringOf_B7 s x1 x2 x3 x4 = some τ) (hC : (C_X8_ringOf_7 N xs s d r (fun τ => r = (some (.int τ), (SH, s)))) τ) : Rn N xs (d + 2) me113 7 [some (.ref 82), some (.int x1), some (.int x2), some (.int x3), some (.int x4)] [] (SH, s) r := by
  unfold F_X8_ringOf_B7 at hJ
  refine Rn_sq srt113 6 3 (pc' := (if (c8 12) ≤ x4 then 56 else 14)) (ls' := [some (.ref 82), some (.int x1), some (.int x2), some (.int x3), some (.int x4)]) (st' := []) (h1 := (SH, s)) rfl (Rn_if (fun h1 => ?_) (fun h1 => ?_))
  · replace hJ := m_ifp h1 hJ
    refine Rn_sq srt113 35 1 (pc' := 57) (ls' := [some (.ref 82), some (.int x1), some (.int x2), some (.int x3), some (.int x4)]) (st' := [(.int (ci 0))]) (h1 := (SH, s)) rfl ?_
    rw [← Option.some.inj hJ] at hC
    have hC : r = (some (.int (ci 0)), (SH, s)) := hC
    subst hC
    exact Rn_ret srt113 36 rfl rfl rfl
  · replace hJ := m_ifn h1 hJ
    refine Rn_sq srt113 9 2 (pc' := 16) (ls' := [some (.ref 82), some (.int x1), some (.int x2), some (.int x3), some (.int x4)]) (st' := [(.int x3), (.ref 82)]) (h1 := (SH, s)) rfl ?_
    obtain ⟨v3, h2, hJ⟩ := m_b1 hJ
    refine Rn_call srt113 11 rfl rfl rfl ⟨Nat.le_of_ble_eq_true rfl, Nat.le_of_ble_eq_true rfl, rfl, Nat.le_of_ble_eq_true rfl⟩ (k_X8_hangsWrong (d) h2) (show Rn N xs (d + 2) me113 19 [some (.ref 82), some (.int x1), some (.int x2), some (.int x3), some (.int x4)] [(.int v3)] (SH, s) r from ?_)
    refine Rn_sq srt113 12 1 (pc' := (if v3 = 0 then 22 else 24)) (ls' := [some (.ref 82), some (.int x1), some (.int x2), some (.int x3), some (.int x4)]) (st' := []) (h1 := (SH, s)) rfl (Rn_if (fun h4 => ?_) (fun h4 => ?_))
    · replace hJ := m_ifp h4 hJ
      refine Rn_sq srt113 13 1 (pc' := 23) (ls' := [some (.ref 82), some (.int x1), some (.int x2), some (.int x3), some (.int x4)]) (st' := [(.int (ci 0))]) (h1 := (SH, s)) rfl ?_
      rw [← Option.some.inj hJ] at hC
      have hC : r = (some (.int (ci 0)), (SH, s)) := hC
      subst hC
      exact Rn_ret srt113 14 rfl rfl rfl
    · replace hJ := m_ifn h4 hJ
      extract_lets +onlyGivenNames v5 at hJ
      refine Rn_sq srt113 15 11 (pc' := 39) (ls' := [some (.ref 82), some (.int x1), some (.int v5), some (.int x3), some (.int x4)]) (st' := [(.int (ci 3)), (.int x3), (.ref 2)]) (h1 := (SH, s)) rfl ?_
      obtain ⟨v7, h6, hJ⟩ := m_b1 hJ
      refine Rn_call srt113 26 rfl rfl rfl ⟨Nat.le_of_ble_eq_true rfl, Nat.le_of_ble_eq_true rfl, rfl, Nat.le_of_ble_eq_true rfl⟩ (k_X10_at 2 (d + 1) isT_2 h6) (show Rn N xs (d + 2) me113 42 [some (.ref 82), some (.int x1), some (.int v5), some (.int x3), some (.int x4)] [(.int v7)] (SH, s) r from ?_)
      refine Rn_sq srt113 27 4 (pc' := (if v7 = x1 then 48 else 50)) (ls' := [some (.ref 82), some (.int x1), some (.int v5), some (.int v7), some (.int x4)]) (st' := []) (h1 := (SH, s)) rfl (Rn_if (fun h8 => ?_) (fun h8 => ?_))
      · replace hJ := m_ifp h8 hJ
        refine Rn_sq srt113 31 1 (pc' := 49) (ls' := [some (.ref 82), some (.int x1), some (.int v5), some (.int v7), some (.int x4)]) (st' := [(.int v5)]) (h1 := (SH, s)) rfl ?_
        rw [← Option.some.inj hJ] at hC
        have hC : r = (some (.int v5), (SH, s)) := hC
        subst hC
        exact Rn_ret srt113 32 rfl rfl rfl
      · replace hJ := m_ifn h8 hJ
        refine Rn_sq srt113 33 2 (pc' := 7) (ls' := [some (.ref 82), some (.int x1), some (.int v5), some (.int v7), some (.int (x4 + ci 1))]) (st' := []) (h1 := (SH, s)) rfl ?_
        rw [← Option.some.inj hJ] at hC
        exact hC
def F_X8_ringOf_L7 (s : mG) (x1 : Int32) (x2 : Int32) (x3 : Int32) (x4 : Int32) : Option (Int32) := whl (fun (v : (Int32 × Int32 × Int32 × Int32)) => F_X8_ringOf_B7 s v.1 v.2.1 v.2.2.1 v.2.2.2) (x1, x2, x3, x4)
theorem k_X8_ringOf_L7 {N : Nat} {xs : Nat → Int32} (d : Nat) {r : Option Value × mH} {s : mG} {x1 : Int32} {x2 : Int32} {x3 : Int32} {x4 : Int32} {τ : (Int32)} (hJ : F_X8_ringOf_L7 s x1 x2 x3 x4 = some τ) (hC : (fun τ => r = (some (.int τ), (SH, s))) τ) : Rn N xs (d + 2) me113 7 [some (.ref 82), some (.int x1), some (.int x2), some (.int x3), some (.int x4)] [] (SH, s) r :=
  whl_link (P := fun (v : (Int32 × Int32 × Int32 × Int32)) => Rn N xs (d + 2) me113 7 [some (.ref 82), some (.int v.1), some (.int v.2.1), some (.int v.2.2.1), some (.int v.2.2.2)] [] (SH, s) r) (C := (C_X8_ringOf_7 N xs s d r (fun τ => r = (some (.int τ), (SH, s))))) (fun v τ h1 h2 => k_X8_ringOf_B7 d h1 h2) (fun _ h => h) (fun _ h => h) _ _ hJ hC
def F_X8_ringOf (s : mG) (a1 : Int32) : Option (Int32) :=
  F_X8_ringOf_L7 s a1 (ci 0) a1 (ci 0)
set_option maxRecDepth 4000 in
theorem k_X8_ringOf_r {N : Nat} {xs : Nat → Int32} (d : Nat) {r : Option Value × mH} {s : mG} {a1 : Int32} {τ : (Int32)} (hJ : F_X8_ringOf s a1 = some τ) (hC : (fun τ => r = (some (.int τ), (SH, s))) τ) : Rn N xs (d + 2) me113 0 [some (.ref 82), some (.int a1), none, none, none] [] (SH, s) r := by
  unfold F_X8_ringOf at hJ
  refine Rn_sq srt113 0 6 (pc' := 7) (ls' := [some (.ref 82), some (.int a1), some (.int (ci 0)), some (.int a1), some (.int (ci 0))]) (st' := []) (h1 := (SH, s)) rfl ?_
  exact (k_X8_ringOf_L7 d hJ hC)
theorem k_X8_ringOf {N : Nat} {xs : Nat → Int32} (d : Nat) {s : mG} {a1 : Int32} {τ : (Int32)} (hJ : F_X8_ringOf s a1 = some τ) : Rn N xs (d + 2) me113 0 [some (.ref 82), some (.int a1), none, none, none] [] (SH, s) (some (.int τ), (SH, s)) := k_X8_ringOf_r d hJ rfl
/-! IsHeIn$Records.ringCount()I -/
theorem srt114 : m_srt mc114 = true := by decide +kernel
def C_X8_ringCount_4 (N : Nat) (xs : Nat → Int32) (s : mG) (d : Nat) (r : Option Value × mH) (C : (Int32) → Prop) : ((Int32 × Int32) ⊕ (Int32)) → Prop
  | .inl v => Rn N xs (d + 3) me114 4 [some (.ref 82), some (.int v.1), some (.int v.2), none, none] [] (SH, s) r
  | .inr a => C a
def F_X8_ringCount_56 (s : mG) (x2 : Int32) (y0 : Int32) (y1 : Int32) : Option ((Int32 × Int32) ⊕ (Int32)) :=
  some (Sum.inl ((y0 + y1), (x2 + ci 1)))
set_option maxRecDepth 4000 in
theorem k_X8_ringCount_56 {N : Nat} {xs : Nat → Int32} (d : Nat) {r : Option Value × mH} {s : mG} {x2 : Int32} {y0 : Int32} {y1 : Int32} {τ : ((Int32 × Int32) ⊕ (Int32))} (hJ : F_X8_ringCount_56 s x2 y0 y1 = some τ) (hC : (C_X8_ringCount_4 N xs s d r (fun τ => r = (some (.int τ), (SH, s)))) τ) : Rn N xs (d + 3) me114 56 [some (.ref 82), none, some (.int x2), none, none] [(.int y1), (.int y0)] (SH, s) r := by
  unfold F_X8_ringCount_56 at hJ
  refine Rn_sq srt114 34 4 (pc' := 4) (ls' := [some (.ref 82), some (.int (y0 + y1)), some (.int (x2 + ci 1)), none, none]) (st' := []) (h1 := (SH, s)) rfl ?_
  rw [← Option.some.inj hJ] at hC
  exact hC
def F_X8_ringCount_55 (s : mG) (x2 : Int32) (y0 : Int32) : Option ((Int32 × Int32) ⊕ (Int32)) :=
  F_X8_ringCount_56 s x2 y0 (ci 0)
set_option maxRecDepth 4000 in
theorem k_X8_ringCount_55 {N : Nat} {xs : Nat → Int32} (d : Nat) {r : Option Value × mH} {s : mG} {x2 : Int32} {y0 : Int32} {τ : ((Int32 × Int32) ⊕ (Int32))} (hJ : F_X8_ringCount_55 s x2 y0 = some τ) (hC : (C_X8_ringCount_4 N xs s d r (fun τ => r = (some (.int τ), (SH, s)))) τ) : Rn N xs (d + 3) me114 55 [some (.ref 82), none, some (.int x2), none, none] [(.int y0)] (SH, s) r := by
  unfold F_X8_ringCount_55 at hJ
  refine Rn_sq srt114 33 1 (pc' := 56) (ls' := [some (.ref 82), none, some (.int x2), none, none]) (st' := [(.int (ci 0)), (.int y0)]) (h1 := (SH, s)) rfl ?_
  exact (k_X8_ringCount_56 d hJ hC)
def F_X8_ringCount_39 (s : mG) (x1 : Int32) (x2 : Int32) (x3 : Int32) (y0 : Int32) : Option ((Int32 × Int32) ⊕ (Int32)) :=
  if x3 = 0 then
    F_X8_ringCount_55 s x2 x1
  else
    if y0 = 0 then
      F_X8_ringCount_55 s x2 x1
    else
      F_X8_ringCount_56 s x2 x1 (ci 1)
set_option maxRecDepth 4000 in
theorem k_X8_ringCount_39 {N : Nat} {xs : Nat → Int32} (d : Nat) {r : Option Value × mH} {s : mG} {x1 : Int32} {x2 : Int32} {x3 : Int32} {y0 : Int32} {τ : ((Int32 × Int32) ⊕ (Int32))} (hJ : F_X8_ringCount_39 s x1 x2 x3 y0 = some τ) (hC : (C_X8_ringCount_4 N xs s d r (fun τ => r = (some (.int τ), (SH, s)))) τ) : Rn N xs (d + 3) me114 39 [some (.ref 82), some (.int x1), some (.int x2), some (.int x3), none] [(.int y0)] (SH, s) r := by
  unfold F_X8_ringCount_39 at hJ
  refine Rn_sq srt114 25 4 (pc' := (if x3 = 0 then 55 else 46)) (ls' := [some (.ref 82), some (.int x1), some (.int x2), some (.int x3), some (.int y0)]) (st' := [(.int x1)]) (h1 := (SH, s)) rfl (Rn_if (fun h5 => ?_) (fun h5 => ?_))
  · replace hJ := m_ifp h5 hJ
    exact Rn_weaken (a := [some (.ref 82), none, some (.int x2), none, none]) (b := [some (.ref 82), some (.int x1), some (.int x2), some (.int x3), some (.int y0)]) (And.intro rfl (And.intro rfl trivial)) rfl (k_X8_ringCount_55 d hJ hC)
  · replace hJ := m_ifn h5 hJ
    refine Rn_sq srt114 29 2 (pc' := (if y0 = 0 then 55 else 51)) (ls' := [some (.ref 82), some (.int x1), some (.int x2), some (.int x3), some (.int y0)]) (st' := [(.int x1)]) (h1 := (SH, s)) rfl (Rn_if (fun h6 => ?_) (fun h6 => ?_))
    · replace hJ := m_ifp h6 hJ
      exact Rn_weaken (a := [some (.ref 82), none, some (.int x2), none, none]) (b := [some (.ref 82), some (.int x1), some (.int x2), some (.int x3), some (.int y0)]) (And.intro rfl (And.intro rfl trivial)) rfl (k_X8_ringCount_55 d hJ hC)
    · replace hJ := m_ifn h6 hJ
      refine Rn_sq srt114 31 2 (pc' := 56) (ls' := [some (.ref 82), some (.int x1), some (.int x2), some (.int x3), some (.int y0)]) (st' := [(.int (ci 1)), (.int x1)]) (h1 := (SH, s)) rfl ?_
      exact Rn_weaken (a := [some (.ref 82), none, some (.int x2), none, none]) (b := [some (.ref 82), some (.int x1), some (.int x2), some (.int x3), some (.int y0)]) (And.intro rfl (And.intro rfl trivial)) rfl (k_X8_ringCount_56 d hJ hC)
def F_X8_ringCount_B4 (s : mG) (x1 : Int32) (x2 : Int32) : Option ((Int32 × Int32) ⊕ (Int32)) :=
  if (s.1 2 3) ≤ x2 then
    some (Sum.inr x1)
  else
    b1 (F_X8_ringOf s x2) fun v3 =>
    if (v3 &&& (((ci 1) <<< (x2 &&& 31)) - (ci 1))) = 0 then
      F_X8_ringCount_39 s x1 x2 v3 (ci 1)
    else
      F_X8_ringCount_39 s x1 x2 v3 (ci 0)
set_option maxRecDepth 4000 in
theorem k_X8_ringCount_B4 {N : Nat} {xs : Nat → Int32} (d : Nat) {r : Option Value × mH} {s : mG} {x1 : Int32} {x2 : Int32} {τ : ((Int32 × Int32) ⊕ (Int32))} (hJ : F_X8_ringCount_B4 s x1 x2 = some τ) (hC : (C_X8_ringCount_4 N xs s d r (fun τ => r = (some (.int τ), (SH, s)))) τ) : Rn N xs (d + 3) me114 4 [some (.ref 82), some (.int x1), some (.int x2), none, none] [] (SH, s) r := by
  unfold F_X8_ringCount_B4 at hJ
  refine Rn_sq srt114 4 6 (pc' := (if (s.1 2 3) ≤ x2 then 64 else 18)) (ls' := [some (.ref 82), some (.int x1), some (.int x2), none, none]) (st' := []) (h1 := (SH, s)) rfl (Rn_if (fun h1 => ?_) (fun h1 => ?_))
  · replace hJ := m_ifp h1 hJ
    refine Rn_sq srt114 38 1 (pc' := 65) (ls' := [some (.ref 82), some (.int x1), some (.int x2), none, none]) (st' := [(.int x1)]) (h1 := (SH, s)) rfl ?_
    rw [← Option.some.inj hJ] at hC
    have hC : r = (some (.int x1), (SH, s)) := hC
    subst hC
    exact Rn_ret srt114 39 rfl rfl rfl
  · replace hJ := m_ifn h1 hJ
    refine Rn_sq srt114 10 2 (pc' := 20) (ls' := [some (.ref 82), some (.int x1), some (.int x2), none, none]) (st' := [(.int x2), (.ref 82)]) (h1 := (SH, s)) rfl ?_
    obtain ⟨v3, h2, hJ⟩ := m_b1 hJ
    refine Rn_call srt114 12 rfl rfl rfl ⟨Nat.le_of_ble_eq_true rfl, Nat.le_of_ble_eq_true rfl, rfl, Nat.le_of_ble_eq_true rfl⟩ (k_X8_ringOf (d) h2) (show Rn N xs (d + 3) me114 23 [some (.ref 82), some (.int x1), some (.int x2), none, none] [(.int v3)] (SH, s) r from ?_)
    refine Rn_sq srt114 13 9 (pc' := (if (v3 &&& (((ci 1) <<< (x2 &&& 31)) - (ci 1))) = 0 then 34 else 38)) (ls' := [some (.ref 82), some (.int x1), some (.int x2), some (.int v3), none]) (st' := []) (h1 := (SH, s)) rfl (Rn_if (fun h4 => ?_) (fun h4 => ?_))
    · replace hJ := m_ifp h4 hJ
      refine Rn_sq srt114 22 2 (pc' := 39) (ls' := [some (.ref 82), some (.int x1), some (.int x2), some (.int v3), none]) (st' := [(.int (ci 1))]) (h1 := (SH, s)) rfl ?_
      exact (k_X8_ringCount_39 d hJ hC)
    · replace hJ := m_ifn h4 hJ
      refine Rn_sq srt114 24 1 (pc' := 39) (ls' := [some (.ref 82), some (.int x1), some (.int x2), some (.int v3), none]) (st' := [(.int (ci 0))]) (h1 := (SH, s)) rfl ?_
      exact (k_X8_ringCount_39 d hJ hC)
def F_X8_ringCount_L4 (s : mG) (x1 : Int32) (x2 : Int32) : Option (Int32) := whl (fun (v : (Int32 × Int32)) => F_X8_ringCount_B4 s v.1 v.2) (x1, x2)
theorem k_X8_ringCount_L4 {N : Nat} {xs : Nat → Int32} (d : Nat) {r : Option Value × mH} {s : mG} {x1 : Int32} {x2 : Int32} {τ : (Int32)} (hJ : F_X8_ringCount_L4 s x1 x2 = some τ) (hC : (fun τ => r = (some (.int τ), (SH, s))) τ) : Rn N xs (d + 3) me114 4 [some (.ref 82), some (.int x1), some (.int x2), none, none] [] (SH, s) r :=
  whl_link (P := fun (v : (Int32 × Int32)) => Rn N xs (d + 3) me114 4 [some (.ref 82), some (.int v.1), some (.int v.2), none, none] [] (SH, s) r) (C := (C_X8_ringCount_4 N xs s d r (fun τ => r = (some (.int τ), (SH, s))))) (fun v τ h1 h2 => k_X8_ringCount_B4 d h1 h2) (fun _ h => h) (fun _ h => h) _ _ hJ hC
def F_X8_ringCount (s : mG) : Option (Int32) :=
  F_X8_ringCount_L4 s (ci 0) (ci 0)
set_option maxRecDepth 4000 in
theorem k_X8_ringCount_r {N : Nat} {xs : Nat → Int32} (d : Nat) {r : Option Value × mH} {s : mG} {τ : (Int32)} (hJ : F_X8_ringCount s = some τ) (hC : (fun τ => r = (some (.int τ), (SH, s))) τ) : Rn N xs (d + 3) me114 0 [some (.ref 82), none, none, none, none] [] (SH, s) r := by
  unfold F_X8_ringCount at hJ
  refine Rn_sq srt114 0 4 (pc' := 4) (ls' := [some (.ref 82), some (.int (ci 0)), some (.int (ci 0)), none, none]) (st' := []) (h1 := (SH, s)) rfl ?_
  exact (k_X8_ringCount_L4 d hJ hC)
theorem k_X8_ringCount {N : Nat} {xs : Nat → Int32} (d : Nat) {s : mG} {τ : (Int32)} (hJ : F_X8_ringCount s = some τ) : Rn N xs (d + 3) me114 0 [some (.ref 82), none, none, none, none] [] (SH, s) (some (.int τ), (SH, s)) := k_X8_ringCount_r d hJ rfl
/-! IsHeIn$Records.longestOutWithKey()I -/
theorem srt115 : m_srt mc115 = true := by decide +kernel
def C_X8_longestOutWithKey_6 (N : Nat) (xs : Nat → Int32) (s : mG) (d : Nat) (r : Option Value × mH) (C : (Int32) → Prop) : ((Int32 × Int32 × Int32) ⊕ (Int32)) → Prop
  | .inl v => Rn N xs (d + 2) me115 6 [some (.ref 82), some (.int v.1), some (.int v.2.1), some (.int v.2.2), none] [] (SH, s) r
  | .inr a => C a
def F_X8_longestOutWithKey_90 (s : mG) (x1 : Int32) (x2 : Int32) (x3 : Int32) : Option ((Int32 × Int32 × Int32) ⊕ (Int32)) :=
  some (Sum.inl (x1, x2, (x3 + ci 1)))
set_option maxRecDepth 4000 in
theorem k_X8_longestOutWithKey_90 {N : Nat} {xs : Nat → Int32} (d : Nat) {r : Option Value × mH} {s : mG} {x1 : Int32} {x2 : Int32} {x3 : Int32} {τ : ((Int32 × Int32 × Int32) ⊕ (Int32))} (hJ : F_X8_longestOutWithKey_90 s x1 x2 x3 = some τ) (hC : (C_X8_longestOutWithKey_6 N xs s d r (fun τ => r = (some (.int τ), (SH, s)))) τ) : Rn N xs (d + 2) me115 90 [some (.ref 82), some (.int x1), some (.int x2), some (.int x3), none] [] (SH, s) r := by
  unfold F_X8_longestOutWithKey_90 at hJ
  refine Rn_sq srt115 48 2 (pc' := 6) (ls' := [some (.ref 82), some (.int x1), some (.int x2), some (.int (x3 + ci 1)), none]) (st' := []) (h1 := (SH, s)) rfl ?_
  rw [← Option.some.inj hJ] at hC
  exact hC
def F_X8_longestOutWithKey_52 (s : mG) (x1 : Int32) (x2 : Int32) (x3 : Int32) (y0 : Int32) : Option ((Int32 × Int32 × Int32) ⊕ (Int32)) :=
  if y0 = 0 then
    F_X8_longestOutWithKey_90 s x1 x2 x3
  else
    b1 (F_X10_at 2 s x3 (ci 4)) fun v7 =>
    if v7 ≤ x2 then
      F_X8_longestOutWithKey_90 s x1 x2 x3
    else
      b1 (F_X10_at 2 s x3 (ci 4)) fun v10 =>
      F_X8_longestOutWithKey_90 s x3 v10 x3
set_option maxRecDepth 4000 in
theorem k_X8_longestOutWithKey_52 {N : Nat} {xs : Nat → Int32} (d : Nat) {r : Option Value × mH} {s : mG} {x1 : Int32} {x2 : Int32} {x3 : Int32} {y0 : Int32} {τ : ((Int32 × Int32 × Int32) ⊕ (Int32))} (hJ : F_X8_longestOutWithKey_52 s x1 x2 x3 y0 = some τ) (hC : (C_X8_longestOutWithKey_6 N xs s d r (fun τ => r = (some (.int τ), (SH, s)))) τ) : Rn N xs (d + 2) me115 52 [some (.ref 82), some (.int x1), some (.int x2), some (.int x3), none] [(.int y0)] (SH, s) r := by
  unfold F_X8_longestOutWithKey_52 at hJ
  refine Rn_sq srt115 28 3 (pc' := (if y0 = 0 then 90 else 59)) (ls' := [some (.ref 82), some (.int x1), some (.int x2), some (.int x3), some (.int y0)]) (st' := []) (h1 := (SH, s)) rfl (Rn_if (fun h5 => ?_) (fun h5 => ?_))
  · replace hJ := m_ifp h5 hJ
    exact Rn_weaken (a := [some (.ref 82), some (.int x1), some (.int x2), some (.int x3), none]) (b := [some (.ref 82), some (.int x1), some (.int x2), some (.int x3), some (.int y0)]) (And.intro rfl (And.intro rfl (And.intro rfl (And.intro rfl trivial)))) rfl (k_X8_longestOutWithKey_90 d hJ hC)
  · replace hJ := m_ifn h5 hJ
    refine Rn_sq srt115 31 5 (pc' := 68) (ls' := [some (.ref 82), some (.int x1), some (.int x2), some (.int x3), some (.int y0)]) (st' := [(.int (ci 4)), (.int x3), (.ref 2)]) (h1 := (SH, s)) rfl ?_
    obtain ⟨v7, h6, hJ⟩ := m_b1 hJ
    refine Rn_call srt115 36 rfl rfl rfl ⟨Nat.le_of_ble_eq_true rfl, Nat.le_of_ble_eq_true rfl, rfl, Nat.le_of_ble_eq_true rfl⟩ (k_X10_at 2 (d + 1) isT_2 h6) (show Rn N xs (d + 2) me115 71 [some (.ref 82), some (.int x1), some (.int x2), some (.int x3), some (.int y0)] [(.int v7)] (SH, s) r from ?_)
    refine Rn_sq srt115 37 2 (pc' := (if v7 ≤ x2 then 90 else 75)) (ls' := [some (.ref 82), some (.int x1), some (.int x2), some (.int x3), some (.int y0)]) (st' := []) (h1 := (SH, s)) rfl (Rn_if (fun h8 => ?_) (fun h8 => ?_))
    · replace hJ := m_ifp h8 hJ
      exact Rn_weaken (a := [some (.ref 82), some (.int x1), some (.int x2), some (.int x3), none]) (b := [some (.ref 82), some (.int x1), some (.int x2), some (.int x3), some (.int y0)]) (And.intro rfl (And.intro rfl (And.intro rfl (And.intro rfl trivial)))) rfl (k_X8_longestOutWithKey_90 d hJ hC)
    · replace hJ := m_ifn h8 hJ
      refine Rn_sq srt115 39 5 (pc' := 84) (ls' := [some (.ref 82), some (.int x1), some (.int x2), some (.int x3), some (.int y0)]) (st' := [(.int (ci 4)), (.int x3), (.ref 2)]) (h1 := (SH, s)) rfl ?_
      obtain ⟨v10, h9, hJ⟩ := m_b1 hJ
      refine Rn_call srt115 44 rfl rfl rfl ⟨Nat.le_of_ble_eq_true rfl, Nat.le_of_ble_eq_true rfl, rfl, Nat.le_of_ble_eq_true rfl⟩ (k_X10_at 2 (d + 1) isT_2 h9) (show Rn N xs (d + 2) me115 87 [some (.ref 82), some (.int x1), some (.int x2), some (.int x3), some (.int y0)] [(.int v10)] (SH, s) r from ?_)
      refine Rn_sq srt115 45 3 (pc' := 90) (ls' := [some (.ref 82), some (.int x3), some (.int v10), some (.int x3), some (.int y0)]) (st' := []) (h1 := (SH, s)) rfl ?_
      exact Rn_weaken (a := [some (.ref 82), some (.int x3), some (.int v10), some (.int x3), none]) (b := [some (.ref 82), some (.int x3), some (.int v10), some (.int x3), some (.int y0)]) (And.intro rfl (And.intro rfl (And.intro rfl (And.intro rfl trivial)))) rfl (k_X8_longestOutWithKey_90 d hJ hC)
def F_X8_longestOutWithKey_51 (s : mG) (x1 : Int32) (x2 : Int32) (x3 : Int32) : Option ((Int32 × Int32 × Int32) ⊕ (Int32)) :=
  F_X8_longestOutWithKey_52 s x1 x2 x3 (ci 0)
set_option maxRecDepth 4000 in
theorem k_X8_longestOutWithKey_51 {N : Nat} {xs : Nat → Int32} (d : Nat) {r : Option Value × mH} {s : mG} {x1 : Int32} {x2 : Int32} {x3 : Int32} {τ : ((Int32 × Int32 × Int32) ⊕ (Int32))} (hJ : F_X8_longestOutWithKey_51 s x1 x2 x3 = some τ) (hC : (C_X8_longestOutWithKey_6 N xs s d r (fun τ => r = (some (.int τ), (SH, s)))) τ) : Rn N xs (d + 2) me115 51 [some (.ref 82), some (.int x1), some (.int x2), some (.int x3), none] [] (SH, s) r := by
  unfold F_X8_longestOutWithKey_51 at hJ
  refine Rn_sq srt115 27 1 (pc' := 52) (ls' := [some (.ref 82), some (.int x1), some (.int x2), some (.int x3), none]) (st' := [(.int (ci 0))]) (h1 := (SH, s)) rfl ?_
  exact (k_X8_longestOutWithKey_52 d hJ hC)
def F_X8_longestOutWithKey_B6 (s : mG) (x1 : Int32) (x2 : Int32) (x3 : Int32) : Option ((Int32 × Int32 × Int32) ⊕ (Int32)) :=
  if (s.1 2 3) ≤ x3 then
    some (Sum.inr x1)
  else
    b1 (F_X2_isOut 1 s x3) fun v3 =>
    if v3 = 0 then
      F_X8_longestOutWithKey_51 s x1 x2 x3
    else
      b1 (F_X10_at 2 s x3 (ci 3)) fun v12 =>
      if v12 = (ci (-1)) then
        F_X8_longestOutWithKey_52 s x1 x2 x3 (ci 1)
      else
        F_X8_longestOutWithKey_51 s x1 x2 x3
set_option maxRecDepth 4000 in
theorem k_X8_longestOutWithKey_B6 {N : Nat} {xs : Nat → Int32} (d : Nat) {r : Option Value × mH} {s : mG} {x1 : Int32} {x2 : Int32} {x3 : Int32} {τ : ((Int32 × Int32 × Int32) ⊕ (Int32))} (hJ : F_X8_longestOutWithKey_B6 s x1 x2 x3 = some τ) (hC : (C_X8_longestOutWithKey_6 N xs s d r (fun τ => r = (some (.int τ), (SH, s)))) τ) : Rn N xs (d + 2) me115 6 [some (.ref 82), some (.int x1), some (.int x2), some (.int x3), none] [] (SH, s) r := by
  unfold F_X8_longestOutWithKey_B6 at hJ
  refine Rn_sq srt115 6 6 (pc' := (if (s.1 2 3) ≤ x3 then 96 else 20)) (ls' := [some (.ref 82), some (.int x1), some (.int x2), some (.int x3), none]) (st' := []) (h1 := (SH, s)) rfl (Rn_if (fun h1 => ?_) (fun h1 => ?_))
  · replace hJ := m_ifp h1 hJ
    refine Rn_sq srt115 50 1 (pc' := 97) (ls' := [some (.ref 82), some (.int x1), some (.int x2), some (.int x3), none]) (st' := [(.int x1)]) (h1 := (SH, s)) rfl ?_
    rw [← Option.some.inj hJ] at hC
    have hC : r = (some (.int x1), (SH, s)) := hC
    subst hC
    exact Rn_ret srt115 51 rfl rfl rfl
  · replace hJ := m_ifn h1 hJ
    refine Rn_sq srt115 12 3 (pc' := 25) (ls' := [some (.ref 82), some (.int x1), some (.int x2), some (.int x3), none]) (st' := [(.int x3), (.ref 1)]) (h1 := (SH, s)) rfl ?_
    obtain ⟨v3, h2, hJ⟩ := m_b1 hJ
    refine Rn_call srt115 15 rfl rfl rfl ⟨Nat.le_of_ble_eq_true rfl, Nat.le_of_ble_eq_true rfl, rfl, Nat.le_of_ble_eq_true rfl⟩ (k_X2_isOut 1 (d) isH_1 h2) (show Rn N xs (d + 2) me115 28 [some (.ref 82), some (.int x1), some (.int x2), some (.int x3), none] [(.int v3)] (SH, s) r from ?_)
    refine Rn_sq srt115 16 1 (pc' := (if v3 = 0 then 51 else 31)) (ls' := [some (.ref 82), some (.int x1), some (.int x2), some (.int x3), none]) (st' := []) (h1 := (SH, s)) rfl (Rn_if (fun h4 => ?_) (fun h4 => ?_))
    · replace hJ := m_ifp h4 hJ
      exact (k_X8_longestOutWithKey_51 d hJ hC)
    · replace hJ := m_ifn h4 hJ
      refine Rn_sq srt115 17 5 (pc' := 40) (ls' := [some (.ref 82), some (.int x1), some (.int x2), some (.int x3), none]) (st' := [(.int (ci 3)), (.int x3), (.ref 2)]) (h1 := (SH, s)) rfl ?_
      obtain ⟨v12, h11, hJ⟩ := m_b1 hJ
      refine Rn_call srt115 22 rfl rfl rfl ⟨Nat.le_of_ble_eq_true rfl, Nat.le_of_ble_eq_true rfl, rfl, Nat.le_of_ble_eq_true rfl⟩ (k_X10_at 2 (d + 1) isT_2 h11) (show Rn N xs (d + 2) me115 43 [some (.ref 82), some (.int x1), some (.int x2), some (.int x3), none] [(.int v12)] (SH, s) r from ?_)
      refine Rn_sq srt115 23 2 (pc' := (if v12 = (ci (-1)) then 47 else 51)) (ls' := [some (.ref 82), some (.int x1), some (.int x2), some (.int x3), none]) (st' := []) (h1 := (SH, s)) rfl (Rn_if (fun h13 => ?_) (fun h13 => ?_))
      · replace hJ := m_ifp h13 hJ
        refine Rn_sq srt115 25 2 (pc' := 52) (ls' := [some (.ref 82), some (.int x1), some (.int x2), some (.int x3), none]) (st' := [(.int (ci 1))]) (h1 := (SH, s)) rfl ?_
        exact (k_X8_longestOutWithKey_52 d hJ hC)
      · replace hJ := m_ifn h13 hJ
        exact (k_X8_longestOutWithKey_51 d hJ hC)
def F_X8_longestOutWithKey_L6 (s : mG) (x1 : Int32) (x2 : Int32) (x3 : Int32) : Option (Int32) := whl (fun (v : (Int32 × Int32 × Int32)) => F_X8_longestOutWithKey_B6 s v.1 v.2.1 v.2.2) (x1, x2, x3)
theorem k_X8_longestOutWithKey_L6 {N : Nat} {xs : Nat → Int32} (d : Nat) {r : Option Value × mH} {s : mG} {x1 : Int32} {x2 : Int32} {x3 : Int32} {τ : (Int32)} (hJ : F_X8_longestOutWithKey_L6 s x1 x2 x3 = some τ) (hC : (fun τ => r = (some (.int τ), (SH, s))) τ) : Rn N xs (d + 2) me115 6 [some (.ref 82), some (.int x1), some (.int x2), some (.int x3), none] [] (SH, s) r :=
  whl_link (P := fun (v : (Int32 × Int32 × Int32)) => Rn N xs (d + 2) me115 6 [some (.ref 82), some (.int v.1), some (.int v.2.1), some (.int v.2.2), none] [] (SH, s) r) (C := (C_X8_longestOutWithKey_6 N xs s d r (fun τ => r = (some (.int τ), (SH, s))))) (fun v τ h1 h2 => k_X8_longestOutWithKey_B6 d h1 h2) (fun _ h => h) (fun _ h => h) _ _ hJ hC
def F_X8_longestOutWithKey (s : mG) : Option (Int32) :=
  F_X8_longestOutWithKey_L6 s (ci (-1)) (ci (-1)) (ci 0)
set_option maxRecDepth 4000 in
theorem k_X8_longestOutWithKey_r {N : Nat} {xs : Nat → Int32} (d : Nat) {r : Option Value × mH} {s : mG} {τ : (Int32)} (hJ : F_X8_longestOutWithKey s = some τ) (hC : (fun τ => r = (some (.int τ), (SH, s))) τ) : Rn N xs (d + 2) me115 0 [some (.ref 82), none, none, none, none] [] (SH, s) r := by
  unfold F_X8_longestOutWithKey at hJ
  refine Rn_sq srt115 0 6 (pc' := 6) (ls' := [some (.ref 82), some (.int (ci (-1))), some (.int (ci (-1))), some (.int (ci 0)), none]) (st' := []) (h1 := (SH, s)) rfl ?_
  exact (k_X8_longestOutWithKey_L6 d hJ hC)
theorem k_X8_longestOutWithKey {N : Nat} {xs : Nat → Int32} (d : Nat) {s : mG} {τ : (Int32)} (hJ : F_X8_longestOutWithKey s = some τ) : Rn N xs (d + 2) me115 0 [some (.ref 82), none, none, none, none] [] (SH, s) (some (.int τ), (SH, s)) := k_X8_longestOutWithKey_r d hJ rfl
/-! IsHeIn$Records.linesOf(IZ)I -/
theorem srt116 : m_srt mc116 = true := by decide +kernel
def C_X8_linesOf_5 (N : Nat) (xs : Nat → Int32) (s : mG) (d : Nat) (r : Option Value × mH) (C : (Int32) → Prop) : ((Int32 × Int32 × Int32 × Int32) ⊕ (Int32)) → Prop
  | .inl v => Rn N xs (d + 1) me116 5 [some (.ref 82), some (.int v.1), some (.int v.2.1), some (.int v.2.2.1), some (.int v.2.2.2), none, none] [] (SH, s) r
  | .inr a => C a
def F_X8_linesOf_102 (s : mG) (x1 : Int32) (x2 : Int32) (x4 : Int32) (y0 : Int32) (y1 : Int32) : Option ((Int32 × Int32 × Int32 × Int32) ⊕ (Int32)) :=
  some (Sum.inl (x1, x2, (y0 + y1), (x4 + ci 1)))
set_option maxRecDepth 4000 in
theorem k_X8_linesOf_102 {N : Nat} {xs : Nat → Int32} (d : Nat) {r : Option Value × mH} {s : mG} {x1 : Int32} {x2 : Int32} {x4 : Int32} {y0 : Int32} {y1 : Int32} {τ : ((Int32 × Int32 × Int32 × Int32) ⊕ (Int32))} (hJ : F_X8_linesOf_102 s x1 x2 x4 y0 y1 = some τ) (hC : (C_X8_linesOf_5 N xs s d r (fun τ => r = (some (.int τ), (SH, s)))) τ) : Rn N xs (d + 1) me116 102 [some (.ref 82), some (.int x1), some (.int x2), none, some (.int x4), none, none] [(.int y1), (.int y0)] (SH, s) r := by
  unfold F_X8_linesOf_102 at hJ
  refine Rn_sq srt116 51 4 (pc' := 5) (ls' := [some (.ref 82), some (.int x1), some (.int x2), some (.int (y0 + y1)), some (.int (x4 + ci 1)), none, none]) (st' := []) (h1 := (SH, s)) rfl ?_
  rw [← Option.some.inj hJ] at hC
  exact hC
def F_X8_linesOf_101 (s : mG) (x1 : Int32) (x2 : Int32) (x4 : Int32) (y0 : Int32) : Option ((Int32 × Int32 × Int32 × Int32) ⊕ (Int32)) :=
  F_X8_linesOf_102 s x1 x2 x4 y0 (ci 0)
set_option maxRecDepth 4000 in
theorem k_X8_linesOf_101 {N : Nat} {xs : Nat → Int32} (d : Nat) {r : Option Value × mH} {s : mG} {x1 : Int32} {x2 : Int32} {x4 : Int32} {y0 : Int32} {τ : ((Int32 × Int32 × Int32 × Int32) ⊕ (Int32))} (hJ : F_X8_linesOf_101 s x1 x2 x4 y0 = some τ) (hC : (C_X8_linesOf_5 N xs s d r (fun τ => r = (some (.int τ), (SH, s)))) τ) : Rn N xs (d + 1) me116 101 [some (.ref 82), some (.int x1), some (.int x2), none, some (.int x4), none, none] [(.int y0)] (SH, s) r := by
  unfold F_X8_linesOf_101 at hJ
  refine Rn_sq srt116 50 1 (pc' := 102) (ls' := [some (.ref 82), some (.int x1), some (.int x2), none, some (.int x4), none, none]) (st' := [(.int (ci 0)), (.int y0)]) (h1 := (SH, s)) rfl ?_
  exact (k_X8_linesOf_102 d hJ hC)
def F_X8_linesOf_83 (s : mG) (x1 : Int32) (x2 : Int32) (x3 : Int32) (x4 : Int32) (x5 : Int32) (y0 : Int32) : Option ((Int32 × Int32 × Int32 × Int32) ⊕ (Int32)) :=
  if x5 = 0 then
    F_X8_linesOf_101 s x1 x2 x4 x3
  else
    if y0 = x2 then
      F_X8_linesOf_102 s x1 x2 x4 x3 (ci 1)
    else
      F_X8_linesOf_101 s x1 x2 x4 x3
set_option maxRecDepth 4000 in
theorem k_X8_linesOf_83 {N : Nat} {xs : Nat → Int32} (d : Nat) {r : Option Value × mH} {s : mG} {x1 : Int32} {x2 : Int32} {x3 : Int32} {x4 : Int32} {x5 : Int32} {y0 : Int32} {τ : ((Int32 × Int32 × Int32 × Int32) ⊕ (Int32))} (hJ : F_X8_linesOf_83 s x1 x2 x3 x4 x5 y0 = some τ) (hC : (C_X8_linesOf_5 N xs s d r (fun τ => r = (some (.int τ), (SH, s)))) τ) : Rn N xs (d + 1) me116 83 [some (.ref 82), some (.int x1), some (.int x2), some (.int x3), some (.int x4), some (.int x5), none] [(.int y0)] (SH, s) r := by
  unfold F_X8_linesOf_83 at hJ
  refine Rn_sq srt116 41 4 (pc' := (if x5 = 0 then 101 else 91)) (ls' := [some (.ref 82), some (.int x1), some (.int x2), some (.int x3), some (.int x4), some (.int x5), some (.int y0)]) (st' := [(.int x3)]) (h1 := (SH, s)) rfl (Rn_if (fun h11 => ?_) (fun h11 => ?_))
  · replace hJ := m_ifp h11 hJ
    exact Rn_weaken (a := [some (.ref 82), some (.int x1), some (.int x2), none, some (.int x4), none, none]) (b := [some (.ref 82), some (.int x1), some (.int x2), some (.int x3), some (.int x4), some (.int x5), some (.int y0)]) (And.intro rfl (And.intro rfl (And.intro rfl (And.intro rfl trivial)))) rfl (k_X8_linesOf_101 d hJ hC)
  · replace hJ := m_ifn h11 hJ
    refine Rn_sq srt116 45 3 (pc' := (if y0 = x2 then 97 else 101)) (ls' := [some (.ref 82), some (.int x1), some (.int x2), some (.int x3), some (.int x4), some (.int x5), some (.int y0)]) (st' := [(.int x3)]) (h1 := (SH, s)) rfl (Rn_if (fun h12 => ?_) (fun h12 => ?_))
    · replace hJ := m_ifp h12 hJ
      refine Rn_sq srt116 48 2 (pc' := 102) (ls' := [some (.ref 82), some (.int x1), some (.int x2), some (.int x3), some (.int x4), some (.int x5), some (.int y0)]) (st' := [(.int (ci 1)), (.int x3)]) (h1 := (SH, s)) rfl ?_
      exact Rn_weaken (a := [some (.ref 82), some (.int x1), some (.int x2), none, some (.int x4), none, none]) (b := [some (.ref 82), some (.int x1), some (.int x2), some (.int x3), some (.int x4), some (.int x5), some (.int y0)]) (And.intro rfl (And.intro rfl (And.intro rfl (And.intro rfl trivial)))) rfl (k_X8_linesOf_102 d hJ hC)
    · replace hJ := m_ifn h12 hJ
      exact Rn_weaken (a := [some (.ref 82), some (.int x1), some (.int x2), none, some (.int x4), none, none]) (b := [some (.ref 82), some (.int x1), some (.int x2), some (.int x3), some (.int x4), some (.int x5), some (.int y0)]) (And.intro rfl (And.intro rfl (And.intro rfl (And.intro rfl trivial)))) rfl (k_X8_linesOf_101 d hJ hC)
def F_X8_linesOf_59 (s : mG) (x1 : Int32) (x2 : Int32) (x3 : Int32) (x4 : Int32) (y0 : Int32) : Option ((Int32 × Int32 × Int32 × Int32) ⊕ (Int32)) :=
  b1 (F_X10_at 4 s x4 (ci 4)) fun v9 =>
  if v9 = (ci (-1)) then
    F_X8_linesOf_83 s x1 x2 x3 x4 y0 (ci 0)
  else
    F_X8_linesOf_83 s x1 x2 x3 x4 y0 (ci 1)
set_option maxRecDepth 4000 in
theorem k_X8_linesOf_59 {N : Nat} {xs : Nat → Int32} (d : Nat) {r : Option Value × mH} {s : mG} {x1 : Int32} {x2 : Int32} {x3 : Int32} {x4 : Int32} {y0 : Int32} {τ : ((Int32 × Int32 × Int32 × Int32) ⊕ (Int32))} (hJ : F_X8_linesOf_59 s x1 x2 x3 x4 y0 = some τ) (hC : (C_X8_linesOf_5 N xs s d r (fun τ => r = (some (.int τ), (SH, s)))) τ) : Rn N xs (d + 1) me116 59 [some (.ref 82), some (.int x1), some (.int x2), some (.int x3), some (.int x4), none, none] [(.int y0)] (SH, s) r := by
  unfold F_X8_linesOf_59 at hJ
  refine Rn_sq srt116 29 6 (pc' := 71) (ls' := [some (.ref 82), some (.int x1), some (.int x2), some (.int x3), some (.int x4), some (.int y0), none]) (st' := [(.int (ci 4)), (.int x4), (.ref 4)]) (h1 := (SH, s)) rfl ?_
  obtain ⟨v9, h8, hJ⟩ := m_b1 hJ
  refine Rn_call srt116 35 rfl rfl rfl ⟨Nat.le_of_ble_eq_true rfl, Nat.le_of_ble_eq_true rfl, rfl, Nat.le_of_ble_eq_true rfl⟩ (k_X10_at 4 (d) isT_4 h8) (show Rn N xs (d + 1) me116 74 [some (.ref 82), some (.int x1), some (.int x2), some (.int x3), some (.int x4), some (.int y0), none] [(.int v9)] (SH, s) r from ?_)
  refine Rn_sq srt116 36 2 (pc' := (if v9 = (ci (-1)) then 82 else 78)) (ls' := [some (.ref 82), some (.int x1), some (.int x2), some (.int x3), some (.int x4), some (.int y0), none]) (st' := []) (h1 := (SH, s)) rfl (Rn_if (fun h10 => ?_) (fun h10 => ?_))
  · replace hJ := m_ifp h10 hJ
    refine Rn_sq srt116 40 1 (pc' := 83) (ls' := [some (.ref 82), some (.int x1), some (.int x2), some (.int x3), some (.int x4), some (.int y0), none]) (st' := [(.int (ci 0))]) (h1 := (SH, s)) rfl ?_
    exact (k_X8_linesOf_83 d hJ hC)
  · replace hJ := m_ifn h10 hJ
    refine Rn_sq srt116 38 2 (pc' := 83) (ls' := [some (.ref 82), some (.int x1), some (.int x2), some (.int x3), some (.int x4), some (.int y0), none]) (st' := [(.int (ci 1))]) (h1 := (SH, s)) rfl ?_
    exact (k_X8_linesOf_83 d hJ hC)
def F_X8_linesOf_58 (s : mG) (x1 : Int32) (x2 : Int32) (x3 : Int32) (x4 : Int32) : Option ((Int32 × Int32 × Int32 × Int32) ⊕ (Int32)) :=
  F_X8_linesOf_59 s x1 x2 x3 x4 (ci 0)
set_option maxRecDepth 4000 in
theorem k_X8_linesOf_58 {N : Nat} {xs : Nat → Int32} (d : Nat) {r : Option Value × mH} {s : mG} {x1 : Int32} {x2 : Int32} {x3 : Int32} {x4 : Int32} {τ : ((Int32 × Int32 × Int32 × Int32) ⊕ (Int32))} (hJ : F_X8_linesOf_58 s x1 x2 x3 x4 = some τ) (hC : (C_X8_linesOf_5 N xs s d r (fun τ => r = (some (.int τ), (SH, s)))) τ) : Rn N xs (d + 1) me116 58 [some (.ref 82), some (.int x1), some (.int x2), some (.int x3), some (.int x4), none, none] [] (SH, s) r := by
  unfold F_X8_linesOf_58 at hJ
  refine Rn_sq srt116 28 1 (pc' := 59) (ls' := [some (.ref 82), some (.int x1), some (.int x2), some (.int x3), some (.int x4), none, none]) (st' := [(.int (ci 0))]) (h1 := (SH, s)) rfl ?_
  exact (k_X8_linesOf_59 d hJ hC)
def F_X8_linesOf_B5 (s : mG) (x1 : Int32) (x2 : Int32) (x3 : Int32) (x4 : Int32) : Option ((Int32 × Int32 × Int32 × Int32) ⊕ (Int32)) :=
  if (s.1 4 3) ≤ x4 then
    some (Sum.inr x3)
  else
    b1 (F_X10_at 4 s x4 (ci 2)) fun v3 =>
    if v3 = x1 then
      b1 (F_X10_at 4 s x4 (ci 1)) fun v6 =>
      if v6 = (ci 2) then
        F_X8_linesOf_58 s x1 x2 x3 x4
      else
        F_X8_linesOf_59 s x1 x2 x3 x4 (ci 1)
    else
      F_X8_linesOf_58 s x1 x2 x3 x4
set_option maxRecDepth 4000 in
theorem k_X8_linesOf_B5 {N : Nat} {xs : Nat → Int32} (d : Nat) {r : Option Value × mH} {s : mG} {x1 : Int32} {x2 : Int32} {x3 : Int32} {x4 : Int32} {τ : ((Int32 × Int32 × Int32 × Int32) ⊕ (Int32))} (hJ : F_X8_linesOf_B5 s x1 x2 x3 x4 = some τ) (hC : (C_X8_linesOf_5 N xs s d r (fun τ => r = (some (.int τ), (SH, s)))) τ) : Rn N xs (d + 1) me116 5 [some (.ref 82), some (.int x1), some (.int x2), some (.int x3), some (.int x4), none, none] [] (SH, s) r := by
  unfold F_X8_linesOf_B5 at hJ
  refine Rn_sq srt116 4 6 (pc' := (if (s.1 4 3) ≤ x4 then 110 else 20)) (ls' := [some (.ref 82), some (.int x1), some (.int x2), some (.int x3), some (.int x4), none, none]) (st' := []) (h1 := (SH, s)) rfl (Rn_if (fun h1 => ?_) (fun h1 => ?_))
  · replace hJ := m_ifp h1 hJ
    refine Rn_sq srt116 55 1 (pc' := 111) (ls' := [some (.ref 82), some (.int x1), some (.int x2), some (.int x3), some (.int x4), none, none]) (st' := [(.int x3)]) (h1 := (SH, s)) rfl ?_
    rw [← Option.some.inj hJ] at hC
    have hC : r = (some (.int x3), (SH, s)) := hC
    subst hC
    exact Rn_ret srt116 56 rfl rfl rfl
  · replace hJ := m_ifn h1 hJ
    refine Rn_sq srt116 10 5 (pc' := 30) (ls' := [some (.ref 82), some (.int x1), some (.int x2), some (.int x3), some (.int x4), none, none]) (st' := [(.int (ci 2)), (.int x4), (.ref 4)]) (h1 := (SH, s)) rfl ?_
    obtain ⟨v3, h2, hJ⟩ := m_b1 hJ
    refine Rn_call srt116 15 rfl rfl rfl ⟨Nat.le_of_ble_eq_true rfl, Nat.le_of_ble_eq_true rfl, rfl, Nat.le_of_ble_eq_true rfl⟩ (k_X10_at 4 (d) isT_4 h2) (show Rn N xs (d + 1) me116 33 [some (.ref 82), some (.int x1), some (.int x2), some (.int x3), some (.int x4), none, none] [(.int v3)] (SH, s) r from ?_)
    refine Rn_sq srt116 16 2 (pc' := (if v3 = x1 then 37 else 58)) (ls' := [some (.ref 82), some (.int x1), some (.int x2), some (.int x3), some (.int x4), none, none]) (st' := []) (h1 := (SH, s)) rfl (Rn_if (fun h4 => ?_) (fun h4 => ?_))
    · replace hJ := m_ifp h4 hJ
      refine Rn_sq srt116 18 5 (pc' := 47) (ls' := [some (.ref 82), some (.int x1), some (.int x2), some (.int x3), some (.int x4), none, none]) (st' := [(.int (ci 1)), (.int x4), (.ref 4)]) (h1 := (SH, s)) rfl ?_
      obtain ⟨v6, h5, hJ⟩ := m_b1 hJ
      refine Rn_call srt116 23 rfl rfl rfl ⟨Nat.le_of_ble_eq_true rfl, Nat.le_of_ble_eq_true rfl, rfl, Nat.le_of_ble_eq_true rfl⟩ (k_X10_at 4 (d) isT_4 h5) (show Rn N xs (d + 1) me116 50 [some (.ref 82), some (.int x1), some (.int x2), some (.int x3), some (.int x4), none, none] [(.int v6)] (SH, s) r from ?_)
      refine Rn_sq srt116 24 2 (pc' := (if v6 = (ci 2) then 58 else 54)) (ls' := [some (.ref 82), some (.int x1), some (.int x2), some (.int x3), some (.int x4), none, none]) (st' := []) (h1 := (SH, s)) rfl (Rn_if (fun h7 => ?_) (fun h7 => ?_))
      · replace hJ := m_ifp h7 hJ
        exact (k_X8_linesOf_58 d hJ hC)
      · replace hJ := m_ifn h7 hJ
        refine Rn_sq srt116 26 2 (pc' := 59) (ls' := [some (.ref 82), some (.int x1), some (.int x2), some (.int x3), some (.int x4), none, none]) (st' := [(.int (ci 1))]) (h1 := (SH, s)) rfl ?_
        exact (k_X8_linesOf_59 d hJ hC)
    · replace hJ := m_ifn h4 hJ
      exact (k_X8_linesOf_58 d hJ hC)
def F_X8_linesOf_L5 (s : mG) (x1 : Int32) (x2 : Int32) (x3 : Int32) (x4 : Int32) : Option (Int32) := whl (fun (v : (Int32 × Int32 × Int32 × Int32)) => F_X8_linesOf_B5 s v.1 v.2.1 v.2.2.1 v.2.2.2) (x1, x2, x3, x4)
theorem k_X8_linesOf_L5 {N : Nat} {xs : Nat → Int32} (d : Nat) {r : Option Value × mH} {s : mG} {x1 : Int32} {x2 : Int32} {x3 : Int32} {x4 : Int32} {τ : (Int32)} (hJ : F_X8_linesOf_L5 s x1 x2 x3 x4 = some τ) (hC : (fun τ => r = (some (.int τ), (SH, s))) τ) : Rn N xs (d + 1) me116 5 [some (.ref 82), some (.int x1), some (.int x2), some (.int x3), some (.int x4), none, none] [] (SH, s) r :=
  whl_link (P := fun (v : (Int32 × Int32 × Int32 × Int32)) => Rn N xs (d + 1) me116 5 [some (.ref 82), some (.int v.1), some (.int v.2.1), some (.int v.2.2.1), some (.int v.2.2.2), none, none] [] (SH, s) r) (C := (C_X8_linesOf_5 N xs s d r (fun τ => r = (some (.int τ), (SH, s))))) (fun v τ h1 h2 => k_X8_linesOf_B5 d h1 h2) (fun _ h => h) (fun _ h => h) _ _ hJ hC
def F_X8_linesOf (s : mG) (a1 : Int32) (a2 : Int32) : Option (Int32) :=
  F_X8_linesOf_L5 s a1 a2 (ci 0) (ci 0)
set_option maxRecDepth 4000 in
theorem k_X8_linesOf_r {N : Nat} {xs : Nat → Int32} (d : Nat) {r : Option Value × mH} {s : mG} {a1 : Int32} {a2 : Int32} {τ : (Int32)} (hJ : F_X8_linesOf s a1 a2 = some τ) (hC : (fun τ => r = (some (.int τ), (SH, s))) τ) : Rn N xs (d + 1) me116 0 [some (.ref 82), some (.int a1), some (.int a2), none, none, none, none] [] (SH, s) r := by
  unfold F_X8_linesOf at hJ
  refine Rn_sq srt116 0 4 (pc' := 5) (ls' := [some (.ref 82), some (.int a1), some (.int a2), some (.int (ci 0)), some (.int (ci 0)), none, none]) (st' := []) (h1 := (SH, s)) rfl ?_
  exact (k_X8_linesOf_L5 d hJ hC)
theorem k_X8_linesOf {N : Nat} {xs : Nat → Int32} (d : Nat) {s : mG} {a1 : Int32} {a2 : Int32} {τ : (Int32)} (hJ : F_X8_linesOf s a1 a2 = some τ) : Rn N xs (d + 1) me116 0 [some (.ref 82), some (.int a1), some (.int a2), none, none, none, none] [] (SH, s) (some (.int τ), (SH, s)) := k_X8_linesOf_r d hJ rfl
/-! IsHeIn$Records.linesAt(II)I -/
theorem srt117 : m_srt mc117 = true := by decide +kernel
def C_X8_linesAt_5 (N : Nat) (xs : Nat → Int32) (s : mG) (d : Nat) (r : Option Value × mH) (C : (Int32) → Prop) : ((Int32 × Int32 × Int32 × Int32) ⊕ (Int32)) → Prop
  | .inl v => Rn N xs (d + 1) me117 5 [some (.ref 82), some (.int v.1), some (.int v.2.1), some (.int v.2.2.1), some (.int v.2.2.2), none] [] (SH, s) r
  | .inr a => C a
def F_X8_linesAt_72 (s : mG) (x1 : Int32) (x2 : Int32) (x4 : Int32) (y0 : Int32) (y1 : Int32) : Option ((Int32 × Int32 × Int32 × Int32) ⊕ (Int32)) :=
  some (Sum.inl (x1, x2, (y0 + y1), (x4 + ci 1)))
set_option maxRecDepth 4000 in
theorem k_X8_linesAt_72 {N : Nat} {xs : Nat → Int32} (d : Nat) {r : Option Value × mH} {s : mG} {x1 : Int32} {x2 : Int32} {x4 : Int32} {y0 : Int32} {y1 : Int32} {τ : ((Int32 × Int32 × Int32 × Int32) ⊕ (Int32))} (hJ : F_X8_linesAt_72 s x1 x2 x4 y0 y1 = some τ) (hC : (C_X8_linesAt_5 N xs s d r (fun τ => r = (some (.int τ), (SH, s)))) τ) : Rn N xs (d + 1) me117 72 [some (.ref 82), some (.int x1), some (.int x2), none, some (.int x4), none] [(.int y1), (.int y0)] (SH, s) r := by
  unfold F_X8_linesAt_72 at hJ
  refine Rn_sq srt117 36 4 (pc' := 5) (ls' := [some (.ref 82), some (.int x1), some (.int x2), some (.int (y0 + y1)), some (.int (x4 + ci 1)), none]) (st' := []) (h1 := (SH, s)) rfl ?_
  rw [← Option.some.inj hJ] at hC
  exact hC
def F_X8_linesAt_59 (s : mG) (x1 : Int32) (x2 : Int32) (x3 : Int32) (x4 : Int32) (y0 : Int32) : Option ((Int32 × Int32 × Int32 × Int32) ⊕ (Int32)) :=
  if y0 = 0 then
    F_X8_linesAt_72 s x1 x2 x4 x3 (ci 0)
  else
    F_X8_linesAt_72 s x1 x2 x4 x3 (ci 1)
set_option maxRecDepth 4000 in
theorem k_X8_linesAt_59 {N : Nat} {xs : Nat → Int32} (d : Nat) {r : Option Value × mH} {s : mG} {x1 : Int32} {x2 : Int32} {x3 : Int32} {x4 : Int32} {y0 : Int32} {τ : ((Int32 × Int32 × Int32 × Int32) ⊕ (Int32))} (hJ : F_X8_linesAt_59 s x1 x2 x3 x4 y0 = some τ) (hC : (C_X8_linesAt_5 N xs s d r (fun τ => r = (some (.int τ), (SH, s)))) τ) : Rn N xs (d + 1) me117 59 [some (.ref 82), some (.int x1), some (.int x2), some (.int x3), some (.int x4), none] [(.int y0)] (SH, s) r := by
  unfold F_X8_linesAt_59 at hJ
  refine Rn_sq srt117 29 4 (pc' := (if y0 = 0 then 71 else 67)) (ls' := [some (.ref 82), some (.int x1), some (.int x2), some (.int x3), some (.int x4), some (.int y0)]) (st' := [(.int x3)]) (h1 := (SH, s)) rfl (Rn_if (fun h8 => ?_) (fun h8 => ?_))
  · replace hJ := m_ifp h8 hJ
    refine Rn_sq srt117 35 1 (pc' := 72) (ls' := [some (.ref 82), some (.int x1), some (.int x2), some (.int x3), some (.int x4), some (.int y0)]) (st' := [(.int (ci 0)), (.int x3)]) (h1 := (SH, s)) rfl ?_
    exact Rn_weaken (a := [some (.ref 82), some (.int x1), some (.int x2), none, some (.int x4), none]) (b := [some (.ref 82), some (.int x1), some (.int x2), some (.int x3), some (.int x4), some (.int y0)]) (And.intro rfl (And.intro rfl (And.intro rfl (And.intro rfl trivial)))) rfl (k_X8_linesAt_72 d hJ hC)
  · replace hJ := m_ifn h8 hJ
    refine Rn_sq srt117 33 2 (pc' := 72) (ls' := [some (.ref 82), some (.int x1), some (.int x2), some (.int x3), some (.int x4), some (.int y0)]) (st' := [(.int (ci 1)), (.int x3)]) (h1 := (SH, s)) rfl ?_
    exact Rn_weaken (a := [some (.ref 82), some (.int x1), some (.int x2), none, some (.int x4), none]) (b := [some (.ref 82), some (.int x1), some (.int x2), some (.int x3), some (.int x4), some (.int y0)]) (And.intro rfl (And.intro rfl (And.intro rfl (And.intro rfl trivial)))) rfl (k_X8_linesAt_72 d hJ hC)
def F_X8_linesAt_58 (s : mG) (x1 : Int32) (x2 : Int32) (x3 : Int32) (x4 : Int32) : Option ((Int32 × Int32 × Int32 × Int32) ⊕ (Int32)) :=
  F_X8_linesAt_59 s x1 x2 x3 x4 (ci 0)
set_option maxRecDepth 4000 in
theorem k_X8_linesAt_58 {N : Nat} {xs : Nat → Int32} (d : Nat) {r : Option Value × mH} {s : mG} {x1 : Int32} {x2 : Int32} {x3 : Int32} {x4 : Int32} {τ : ((Int32 × Int32 × Int32 × Int32) ⊕ (Int32))} (hJ : F_X8_linesAt_58 s x1 x2 x3 x4 = some τ) (hC : (C_X8_linesAt_5 N xs s d r (fun τ => r = (some (.int τ), (SH, s)))) τ) : Rn N xs (d + 1) me117 58 [some (.ref 82), some (.int x1), some (.int x2), some (.int x3), some (.int x4), none] [] (SH, s) r := by
  unfold F_X8_linesAt_58 at hJ
  refine Rn_sq srt117 28 1 (pc' := 59) (ls' := [some (.ref 82), some (.int x1), some (.int x2), some (.int x3), some (.int x4), none]) (st' := [(.int (ci 0))]) (h1 := (SH, s)) rfl ?_
  exact (k_X8_linesAt_59 d hJ hC)
def F_X8_linesAt_B5 (s : mG) (x1 : Int32) (x2 : Int32) (x3 : Int32) (x4 : Int32) : Option ((Int32 × Int32 × Int32 × Int32) ⊕ (Int32)) :=
  if (s.1 4 3) ≤ x4 then
    some (Sum.inr x3)
  else
    b1 (F_X10_at 4 s x4 (ci 3)) fun v3 =>
    if v3 = x1 then
      b1 (F_X10_at 4 s x4 (ci 1)) fun v6 =>
      if v6 = x2 then
        F_X8_linesAt_59 s x1 x2 x3 x4 (ci 1)
      else
        F_X8_linesAt_58 s x1 x2 x3 x4
    else
      F_X8_linesAt_58 s x1 x2 x3 x4
set_option maxRecDepth 4000 in
theorem k_X8_linesAt_B5 {N : Nat} {xs : Nat → Int32} (d : Nat) {r : Option Value × mH} {s : mG} {x1 : Int32} {x2 : Int32} {x3 : Int32} {x4 : Int32} {τ : ((Int32 × Int32 × Int32 × Int32) ⊕ (Int32))} (hJ : F_X8_linesAt_B5 s x1 x2 x3 x4 = some τ) (hC : (C_X8_linesAt_5 N xs s d r (fun τ => r = (some (.int τ), (SH, s)))) τ) : Rn N xs (d + 1) me117 5 [some (.ref 82), some (.int x1), some (.int x2), some (.int x3), some (.int x4), none] [] (SH, s) r := by
  unfold F_X8_linesAt_B5 at hJ
  refine Rn_sq srt117 4 6 (pc' := (if (s.1 4 3) ≤ x4 then 80 else 20)) (ls' := [some (.ref 82), some (.int x1), some (.int x2), some (.int x3), some (.int x4), none]) (st' := []) (h1 := (SH, s)) rfl (Rn_if (fun h1 => ?_) (fun h1 => ?_))
  · replace hJ := m_ifp h1 hJ
    refine Rn_sq srt117 40 1 (pc' := 81) (ls' := [some (.ref 82), some (.int x1), some (.int x2), some (.int x3), some (.int x4), none]) (st' := [(.int x3)]) (h1 := (SH, s)) rfl ?_
    rw [← Option.some.inj hJ] at hC
    have hC : r = (some (.int x3), (SH, s)) := hC
    subst hC
    exact Rn_ret srt117 41 rfl rfl rfl
  · replace hJ := m_ifn h1 hJ
    refine Rn_sq srt117 10 5 (pc' := 30) (ls' := [some (.ref 82), some (.int x1), some (.int x2), some (.int x3), some (.int x4), none]) (st' := [(.int (ci 3)), (.int x4), (.ref 4)]) (h1 := (SH, s)) rfl ?_
    obtain ⟨v3, h2, hJ⟩ := m_b1 hJ
    refine Rn_call srt117 15 rfl rfl rfl ⟨Nat.le_of_ble_eq_true rfl, Nat.le_of_ble_eq_true rfl, rfl, Nat.le_of_ble_eq_true rfl⟩ (k_X10_at 4 (d) isT_4 h2) (show Rn N xs (d + 1) me117 33 [some (.ref 82), some (.int x1), some (.int x2), some (.int x3), some (.int x4), none] [(.int v3)] (SH, s) r from ?_)
    refine Rn_sq srt117 16 2 (pc' := (if v3 = x1 then 37 else 58)) (ls' := [some (.ref 82), some (.int x1), some (.int x2), some (.int x3), some (.int x4), none]) (st' := []) (h1 := (SH, s)) rfl (Rn_if (fun h4 => ?_) (fun h4 => ?_))
    · replace hJ := m_ifp h4 hJ
      refine Rn_sq srt117 18 5 (pc' := 47) (ls' := [some (.ref 82), some (.int x1), some (.int x2), some (.int x3), some (.int x4), none]) (st' := [(.int (ci 1)), (.int x4), (.ref 4)]) (h1 := (SH, s)) rfl ?_
      obtain ⟨v6, h5, hJ⟩ := m_b1 hJ
      refine Rn_call srt117 23 rfl rfl rfl ⟨Nat.le_of_ble_eq_true rfl, Nat.le_of_ble_eq_true rfl, rfl, Nat.le_of_ble_eq_true rfl⟩ (k_X10_at 4 (d) isT_4 h5) (show Rn N xs (d + 1) me117 50 [some (.ref 82), some (.int x1), some (.int x2), some (.int x3), some (.int x4), none] [(.int v6)] (SH, s) r from ?_)
      refine Rn_sq srt117 24 2 (pc' := (if v6 = x2 then 54 else 58)) (ls' := [some (.ref 82), some (.int x1), some (.int x2), some (.int x3), some (.int x4), none]) (st' := []) (h1 := (SH, s)) rfl (Rn_if (fun h7 => ?_) (fun h7 => ?_))
      · replace hJ := m_ifp h7 hJ
        refine Rn_sq srt117 26 2 (pc' := 59) (ls' := [some (.ref 82), some (.int x1), some (.int x2), some (.int x3), some (.int x4), none]) (st' := [(.int (ci 1))]) (h1 := (SH, s)) rfl ?_
        exact (k_X8_linesAt_59 d hJ hC)
      · replace hJ := m_ifn h7 hJ
        exact (k_X8_linesAt_58 d hJ hC)
    · replace hJ := m_ifn h4 hJ
      exact (k_X8_linesAt_58 d hJ hC)
def F_X8_linesAt_L5 (s : mG) (x1 : Int32) (x2 : Int32) (x3 : Int32) (x4 : Int32) : Option (Int32) := whl (fun (v : (Int32 × Int32 × Int32 × Int32)) => F_X8_linesAt_B5 s v.1 v.2.1 v.2.2.1 v.2.2.2) (x1, x2, x3, x4)
theorem k_X8_linesAt_L5 {N : Nat} {xs : Nat → Int32} (d : Nat) {r : Option Value × mH} {s : mG} {x1 : Int32} {x2 : Int32} {x3 : Int32} {x4 : Int32} {τ : (Int32)} (hJ : F_X8_linesAt_L5 s x1 x2 x3 x4 = some τ) (hC : (fun τ => r = (some (.int τ), (SH, s))) τ) : Rn N xs (d + 1) me117 5 [some (.ref 82), some (.int x1), some (.int x2), some (.int x3), some (.int x4), none] [] (SH, s) r :=
  whl_link (P := fun (v : (Int32 × Int32 × Int32 × Int32)) => Rn N xs (d + 1) me117 5 [some (.ref 82), some (.int v.1), some (.int v.2.1), some (.int v.2.2.1), some (.int v.2.2.2), none] [] (SH, s) r) (C := (C_X8_linesAt_5 N xs s d r (fun τ => r = (some (.int τ), (SH, s))))) (fun v τ h1 h2 => k_X8_linesAt_B5 d h1 h2) (fun _ h => h) (fun _ h => h) _ _ hJ hC
def F_X8_linesAt (s : mG) (a1 : Int32) (a2 : Int32) : Option (Int32) :=
  F_X8_linesAt_L5 s a1 a2 (ci 0) (ci 0)
set_option maxRecDepth 4000 in
theorem k_X8_linesAt_r {N : Nat} {xs : Nat → Int32} (d : Nat) {r : Option Value × mH} {s : mG} {a1 : Int32} {a2 : Int32} {τ : (Int32)} (hJ : F_X8_linesAt s a1 a2 = some τ) (hC : (fun τ => r = (some (.int τ), (SH, s))) τ) : Rn N xs (d + 1) me117 0 [some (.ref 82), some (.int a1), some (.int a2), none, none, none] [] (SH, s) r := by
  unfold F_X8_linesAt at hJ
  refine Rn_sq srt117 0 4 (pc' := 5) (ls' := [some (.ref 82), some (.int a1), some (.int a2), some (.int (ci 0)), some (.int (ci 0)), none]) (st' := []) (h1 := (SH, s)) rfl ?_
  exact (k_X8_linesAt_L5 d hJ hC)
theorem k_X8_linesAt {N : Nat} {xs : Nat → Int32} (d : Nat) {s : mG} {a1 : Int32} {a2 : Int32} {τ : (Int32)} (hJ : F_X8_linesAt s a1 a2 = some τ) : Rn N xs (d + 1) me117 0 [some (.ref 82), some (.int a1), some (.int a2), none, none, none] [] (SH, s) (some (.int τ), (SH, s)) := k_X8_linesAt_r d hJ rfl
/-! IsHeIn$Records.clerkOfLastGoing(I)I -/
theorem srt119 : m_srt mc119 = true := by decide +kernel
def C_X8_clerkOfLastGoing_13 (N : Nat) (xs : Nat → Int32) (s : mG) (d : Nat) (r : Option Value × mH) (C : (Int32) → Prop) : ((Int32 × Int32) ⊕ (Int32)) → Prop
  | .inl v => Rn N xs (d + 1) me119 13 [some (.ref 82), some (.int v.1), some (.int v.2)] [] (SH, s) r
  | .inr a => C a
def F_X8_clerkOfLastGoing_61 (s : mG) (x1 : Int32) (x2 : Int32) : Option ((Int32 × Int32) ⊕ (Int32)) :=
  some (Sum.inl (x1, (x2 + ci (-1))))
set_option maxRecDepth 4000 in
theorem k_X8_clerkOfLastGoing_61 {N : Nat} {xs : Nat → Int32} (d : Nat) {r : Option Value × mH} {s : mG} {x1 : Int32} {x2 : Int32} {τ : ((Int32 × Int32) ⊕ (Int32))} (hJ : F_X8_clerkOfLastGoing_61 s x1 x2 = some τ) (hC : (C_X8_clerkOfLastGoing_13 N xs s d r (fun τ => r = (some (.int τ), (SH, s)))) τ) : Rn N xs (d + 1) me119 61 [some (.ref 82), some (.int x1), some (.int x2)] [] (SH, s) r := by
  unfold F_X8_clerkOfLastGoing_61 at hJ
  refine Rn_sq srt119 31 2 (pc' := 13) (ls' := [some (.ref 82), some (.int x1), some (.int (x2 + ci (-1)))]) (st' := []) (h1 := (SH, s)) rfl ?_
  rw [← Option.some.inj hJ] at hC
  exact hC
def F_X8_clerkOfLastGoing_B13 (s : mG) (x1 : Int32) (x2 : Int32) : Option ((Int32 × Int32) ⊕ (Int32)) :=
  if x2 < 0 then
    some (Sum.inr (ci (-1)))
  else
    b1 (F_X10_at 4 s x2 (ci 2)) fun v3 =>
    if v3 = x1 then
      b1 (F_X10_at 4 s x2 (ci 1)) fun v6 =>
      if v6 = 0 then
        b1 (F_X10_at 4 s x2 (ci 4)) fun v9 =>
        some (Sum.inr v9)
      else
        F_X8_clerkOfLastGoing_61 s x1 x2
    else
      F_X8_clerkOfLastGoing_61 s x1 x2
set_option maxRecDepth 4000 in
theorem k_X8_clerkOfLastGoing_B13 {N : Nat} {xs : Nat → Int32} (d : Nat) {r : Option Value × mH} {s : mG} {x1 : Int32} {x2 : Int32} {τ : ((Int32 × Int32) ⊕ (Int32))} (hJ : F_X8_clerkOfLastGoing_B13 s x1 x2 = some τ) (hC : (C_X8_clerkOfLastGoing_13 N xs s d r (fun τ => r = (some (.int τ), (SH, s)))) τ) : Rn N xs (d + 1) me119 13 [some (.ref 82), some (.int x1), some (.int x2)] [] (SH, s) r := by
  unfold F_X8_clerkOfLastGoing_B13 at hJ
  refine Rn_sq srt119 7 2 (pc' := (if x2 < 0 then 67 else 17)) (ls' := [some (.ref 82), some (.int x1), some (.int x2)]) (st' := []) (h1 := (SH, s)) rfl (Rn_if (fun h1 => ?_) (fun h1 => ?_))
  · replace hJ := m_ifp h1 hJ
    refine Rn_sq srt119 33 1 (pc' := 68) (ls' := [some (.ref 82), some (.int x1), some (.int x2)]) (st' := [(.int (ci (-1)))]) (h1 := (SH, s)) rfl ?_
    rw [← Option.some.inj hJ] at hC
    have hC : r = (some (.int (ci (-1))), (SH, s)) := hC
    subst hC
    exact Rn_ret srt119 34 rfl rfl rfl
  · replace hJ := m_ifn h1 hJ
    refine Rn_sq srt119 9 5 (pc' := 26) (ls' := [some (.ref 82), some (.int x1), some (.int x2)]) (st' := [(.int (ci 2)), (.int x2), (.ref 4)]) (h1 := (SH, s)) rfl ?_
    obtain ⟨v3, h2, hJ⟩ := m_b1 hJ
    refine Rn_call srt119 14 rfl rfl rfl ⟨Nat.le_of_ble_eq_true rfl, Nat.le_of_ble_eq_true rfl, rfl, Nat.le_of_ble_eq_true rfl⟩ (k_X10_at 4 (d) isT_4 h2) (show Rn N xs (d + 1) me119 29 [some (.ref 82), some (.int x1), some (.int x2)] [(.int v3)] (SH, s) r from ?_)
    refine Rn_sq srt119 15 2 (pc' := (if v3 = x1 then 33 else 61)) (ls' := [some (.ref 82), some (.int x1), some (.int x2)]) (st' := []) (h1 := (SH, s)) rfl (Rn_if (fun h4 => ?_) (fun h4 => ?_))
    · replace hJ := m_ifp h4 hJ
      refine Rn_sq srt119 17 5 (pc' := 42) (ls' := [some (.ref 82), some (.int x1), some (.int x2)]) (st' := [(.int (ci 1)), (.int x2), (.ref 4)]) (h1 := (SH, s)) rfl ?_
      obtain ⟨v6, h5, hJ⟩ := m_b1 hJ
      refine Rn_call srt119 22 rfl rfl rfl ⟨Nat.le_of_ble_eq_true rfl, Nat.le_of_ble_eq_true rfl, rfl, Nat.le_of_ble_eq_true rfl⟩ (k_X10_at 4 (d) isT_4 h5) (show Rn N xs (d + 1) me119 45 [some (.ref 82), some (.int x1), some (.int x2)] [(.int v6)] (SH, s) r from ?_)
      refine Rn_sq srt119 23 1 (pc' := (if v6 = 0 then 48 else 61)) (ls' := [some (.ref 82), some (.int x1), some (.int x2)]) (st' := []) (h1 := (SH, s)) rfl (Rn_if (fun h7 => ?_) (fun h7 => ?_))
      · replace hJ := m_ifp h7 hJ
        refine Rn_sq srt119 24 5 (pc' := 57) (ls' := [some (.ref 82), some (.int x1), some (.int x2)]) (st' := [(.int (ci 4)), (.int x2), (.ref 4)]) (h1 := (SH, s)) rfl ?_
        obtain ⟨v9, h8, hJ⟩ := m_b1 hJ
        refine Rn_call srt119 29 rfl rfl rfl ⟨Nat.le_of_ble_eq_true rfl, Nat.le_of_ble_eq_true rfl, rfl, Nat.le_of_ble_eq_true rfl⟩ (k_X10_at 4 (d) isT_4 h8) (show Rn N xs (d + 1) me119 60 [some (.ref 82), some (.int x1), some (.int x2)] [(.int v9)] (SH, s) r from ?_)
        rw [← Option.some.inj hJ] at hC
        have hC : r = (some (.int v9), (SH, s)) := hC
        subst hC
        exact Rn_ret srt119 30 rfl rfl rfl
      · replace hJ := m_ifn h7 hJ
        exact (k_X8_clerkOfLastGoing_61 d hJ hC)
    · replace hJ := m_ifn h4 hJ
      exact (k_X8_clerkOfLastGoing_61 d hJ hC)
def F_X8_clerkOfLastGoing_L13 (s : mG) (x1 : Int32) (x2 : Int32) : Option (Int32) := whl (fun (v : (Int32 × Int32)) => F_X8_clerkOfLastGoing_B13 s v.1 v.2) (x1, x2)
theorem k_X8_clerkOfLastGoing_L13 {N : Nat} {xs : Nat → Int32} (d : Nat) {r : Option Value × mH} {s : mG} {x1 : Int32} {x2 : Int32} {τ : (Int32)} (hJ : F_X8_clerkOfLastGoing_L13 s x1 x2 = some τ) (hC : (fun τ => r = (some (.int τ), (SH, s))) τ) : Rn N xs (d + 1) me119 13 [some (.ref 82), some (.int x1), some (.int x2)] [] (SH, s) r :=
  whl_link (P := fun (v : (Int32 × Int32)) => Rn N xs (d + 1) me119 13 [some (.ref 82), some (.int v.1), some (.int v.2)] [] (SH, s) r) (C := (C_X8_clerkOfLastGoing_13 N xs s d r (fun τ => r = (some (.int τ), (SH, s))))) (fun v τ h1 h2 => k_X8_clerkOfLastGoing_B13 d h1 h2) (fun _ h => h) (fun _ h => h) _ _ hJ hC
def F_X8_clerkOfLastGoing (s : mG) (a1 : Int32) : Option (Int32) :=
  F_X8_clerkOfLastGoing_L13 s a1 ((s.1 4 3) - (ci 1))
set_option maxRecDepth 4000 in
theorem k_X8_clerkOfLastGoing_r {N : Nat} {xs : Nat → Int32} (d : Nat) {r : Option Value × mH} {s : mG} {a1 : Int32} {τ : (Int32)} (hJ : F_X8_clerkOfLastGoing s a1 = some τ) (hC : (fun τ => r = (some (.int τ), (SH, s))) τ) : Rn N xs (d + 1) me119 0 [some (.ref 82), some (.int a1), none] [] (SH, s) r := by
  unfold F_X8_clerkOfLastGoing at hJ
  refine Rn_sq srt119 0 7 (pc' := 13) (ls' := [some (.ref 82), some (.int a1), some (.int ((s.1 4 3) - (ci 1)))]) (st' := []) (h1 := (SH, s)) rfl ?_
  exact (k_X8_clerkOfLastGoing_L13 d hJ hC)
theorem k_X8_clerkOfLastGoing {N : Nat} {xs : Nat → Int32} (d : Nat) {s : mG} {a1 : Int32} {τ : (Int32)} (hJ : F_X8_clerkOfLastGoing s a1 = some τ) : Rn N xs (d + 1) me119 0 [some (.ref 82), some (.int a1), none] [] (SH, s) (some (.int τ), (SH, s)) := k_X8_clerkOfLastGoing_r d hJ rfl
/-! IsHeIn$Records.outSeenBy(I)I -/
theorem srt118 : m_srt mc118 = true := by decide +kernel
def C_X8_outSeenBy_4 (N : Nat) (xs : Nat → Int32) (s : mG) (d : Nat) (r : Option Value × mH) (C : (Int32) → Prop) : ((Int32 × Int32 × Int32) ⊕ (Int32)) → Prop
  | .inl v => Rn N xs (d + 2) me118 4 [some (.ref 82), some (.int v.1), some (.int v.2.1), some (.int v.2.2)] [] (SH, s) r
  | .inr a => C a
def F_X8_outSeenBy_46 (s : mG) (x1 : Int32) (x3 : Int32) (y0 : Int32) (y1 : Int32) : Option ((Int32 × Int32 × Int32) ⊕ (Int32)) :=
  some (Sum.inl (x1, (y0 ||| y1), (x3 + ci 1)))
set_option maxRecDepth 4000 in
theorem k_X8_outSeenBy_46 {N : Nat} {xs : Nat → Int32} (d : Nat) {r : Option Value × mH} {s : mG} {x1 : Int32} {x3 : Int32} {y0 : Int32} {y1 : Int32} {τ : ((Int32 × Int32 × Int32) ⊕ (Int32))} (hJ : F_X8_outSeenBy_46 s x1 x3 y0 y1 = some τ) (hC : (C_X8_outSeenBy_4 N xs s d r (fun τ => r = (some (.int τ), (SH, s)))) τ) : Rn N xs (d + 2) me118 46 [some (.ref 82), some (.int x1), none, some (.int x3)] [(.int y1), (.int y0)] (SH, s) r := by
  unfold F_X8_outSeenBy_46 at hJ
  refine Rn_sq srt118 26 4 (pc' := 4) (ls' := [some (.ref 82), some (.int x1), some (.int (y0 ||| y1)), some (.int (x3 + ci 1))]) (st' := []) (h1 := (SH, s)) rfl ?_
  rw [← Option.some.inj hJ] at hC
  exact hC
def F_X8_outSeenBy_45 (s : mG) (x1 : Int32) (x3 : Int32) (y0 : Int32) : Option ((Int32 × Int32 × Int32) ⊕ (Int32)) :=
  F_X8_outSeenBy_46 s x1 x3 y0 (ci 0)
set_option maxRecDepth 4000 in
theorem k_X8_outSeenBy_45 {N : Nat} {xs : Nat → Int32} (d : Nat) {r : Option Value × mH} {s : mG} {x1 : Int32} {x3 : Int32} {y0 : Int32} {τ : ((Int32 × Int32 × Int32) ⊕ (Int32))} (hJ : F_X8_outSeenBy_45 s x1 x3 y0 = some τ) (hC : (C_X8_outSeenBy_4 N xs s d r (fun τ => r = (some (.int τ), (SH, s)))) τ) : Rn N xs (d + 2) me118 45 [some (.ref 82), some (.int x1), none, some (.int x3)] [(.int y0)] (SH, s) r := by
  unfold F_X8_outSeenBy_45 at hJ
  refine Rn_sq srt118 25 1 (pc' := 46) (ls' := [some (.ref 82), some (.int x1), none, some (.int x3)]) (st' := [(.int (ci 0)), (.int y0)]) (h1 := (SH, s)) rfl ?_
  exact (k_X8_outSeenBy_46 d hJ hC)
def F_X8_outSeenBy_B4 (s : mG) (x1 : Int32) (x2 : Int32) (x3 : Int32) : Option ((Int32 × Int32 × Int32) ⊕ (Int32)) :=
  if (s.1 2 3) ≤ x3 then
    some (Sum.inr x2)
  else
    b1 (F_X2_isOut 1 s x3) fun v3 =>
    if v3 = 0 then
      F_X8_outSeenBy_45 s x1 x3 x2
    else
      b1 (F_X8_clerkOfLastGoing s x3) fun v6 =>
      if v6 = x1 then
        F_X8_outSeenBy_46 s x1 x3 x2 ((ci 1) <<< (x3 &&& 31))
      else
        F_X8_outSeenBy_45 s x1 x3 x2
set_option maxRecDepth 4000 in
theorem k_X8_outSeenBy_B4 {N : Nat} {xs : Nat → Int32} (d : Nat) {r : Option Value × mH} {s : mG} {x1 : Int32} {x2 : Int32} {x3 : Int32} {τ : ((Int32 × Int32 × Int32) ⊕ (Int32))} (hJ : F_X8_outSeenBy_B4 s x1 x2 x3 = some τ) (hC : (C_X8_outSeenBy_4 N xs s d r (fun τ => r = (some (.int τ), (SH, s)))) τ) : Rn N xs (d + 2) me118 4 [some (.ref 82), some (.int x1), some (.int x2), some (.int x3)] [] (SH, s) r := by
  unfold F_X8_outSeenBy_B4 at hJ
  refine Rn_sq srt118 4 6 (pc' := (if (s.1 2 3) ≤ x3 then 54 else 18)) (ls' := [some (.ref 82), some (.int x1), some (.int x2), some (.int x3)]) (st' := []) (h1 := (SH, s)) rfl (Rn_if (fun h1 => ?_) (fun h1 => ?_))
  · replace hJ := m_ifp h1 hJ
    refine Rn_sq srt118 30 1 (pc' := 55) (ls' := [some (.ref 82), some (.int x1), some (.int x2), some (.int x3)]) (st' := [(.int x2)]) (h1 := (SH, s)) rfl ?_
    rw [← Option.some.inj hJ] at hC
    have hC : r = (some (.int x2), (SH, s)) := hC
    subst hC
    exact Rn_ret srt118 31 rfl rfl rfl
  · replace hJ := m_ifn h1 hJ
    refine Rn_sq srt118 10 4 (pc' := 24) (ls' := [some (.ref 82), some (.int x1), some (.int x2), some (.int x3)]) (st' := [(.int x3), (.ref 1), (.int x2)]) (h1 := (SH, s)) rfl ?_
    obtain ⟨v3, h2, hJ⟩ := m_b1 hJ
    refine Rn_call srt118 14 rfl rfl rfl ⟨Nat.le_of_ble_eq_true rfl, Nat.le_of_ble_eq_true rfl, rfl, Nat.le_of_ble_eq_true rfl⟩ (k_X2_isOut 1 (d) isH_1 h2) (show Rn N xs (d + 2) me118 27 [some (.ref 82), some (.int x1), some (.int x2), some (.int x3)] [(.int v3), (.int x2)] (SH, s) r from ?_)
    refine Rn_sq srt118 15 1 (pc' := (if v3 = 0 then 45 else 30)) (ls' := [some (.ref 82), some (.int x1), some (.int x2), some (.int x3)]) (st' := [(.int x2)]) (h1 := (SH, s)) rfl (Rn_if (fun h4 => ?_) (fun h4 => ?_))
    · replace hJ := m_ifp h4 hJ
      exact Rn_weaken (a := [some (.ref 82), some (.int x1), none, some (.int x3)]) (b := [some (.ref 82), some (.int x1), some (.int x2), some (.int x3)]) (And.intro rfl (And.intro rfl (And.intro rfl trivial))) rfl (k_X8_outSeenBy_45 d hJ hC)
    · replace hJ := m_ifn h4 hJ
      refine Rn_sq srt118 16 2 (pc' := 32) (ls' := [some (.ref 82), some (.int x1), some (.int x2), some (.int x3)]) (st' := [(.int x3), (.ref 82), (.int x2)]) (h1 := (SH, s)) rfl ?_
      obtain ⟨v6, h5, hJ⟩ := m_b1 hJ
      refine Rn_call srt118 18 rfl rfl rfl ⟨Nat.le_of_ble_eq_true rfl, Nat.le_of_ble_eq_true rfl, rfl, Nat.le_of_ble_eq_true rfl⟩ (k_X8_clerkOfLastGoing (d) h5) (show Rn N xs (d + 2) me118 35 [some (.ref 82), some (.int x1), some (.int x2), some (.int x3)] [(.int v6), (.int x2)] (SH, s) r from ?_)
      refine Rn_sq srt118 19 2 (pc' := (if v6 = x1 then 39 else 45)) (ls' := [some (.ref 82), some (.int x1), some (.int x2), some (.int x3)]) (st' := [(.int x2)]) (h1 := (SH, s)) rfl (Rn_if (fun h7 => ?_) (fun h7 => ?_))
      · replace hJ := m_ifp h7 hJ
        refine Rn_sq srt118 21 4 (pc' := 46) (ls' := [some (.ref 82), some (.int x1), some (.int x2), some (.int x3)]) (st' := [(.int ((ci 1) <<< (x3 &&& 31))), (.int x2)]) (h1 := (SH, s)) rfl ?_
        exact Rn_weaken (a := [some (.ref 82), some (.int x1), none, some (.int x3)]) (b := [some (.ref 82), some (.int x1), some (.int x2), some (.int x3)]) (And.intro rfl (And.intro rfl (And.intro rfl trivial))) rfl (k_X8_outSeenBy_46 d hJ hC)
      · replace hJ := m_ifn h7 hJ
        exact Rn_weaken (a := [some (.ref 82), some (.int x1), none, some (.int x3)]) (b := [some (.ref 82), some (.int x1), some (.int x2), some (.int x3)]) (And.intro rfl (And.intro rfl (And.intro rfl trivial))) rfl (k_X8_outSeenBy_45 d hJ hC)
def F_X8_outSeenBy_L4 (s : mG) (x1 : Int32) (x2 : Int32) (x3 : Int32) : Option (Int32) := whl (fun (v : (Int32 × Int32 × Int32)) => F_X8_outSeenBy_B4 s v.1 v.2.1 v.2.2) (x1, x2, x3)
theorem k_X8_outSeenBy_L4 {N : Nat} {xs : Nat → Int32} (d : Nat) {r : Option Value × mH} {s : mG} {x1 : Int32} {x2 : Int32} {x3 : Int32} {τ : (Int32)} (hJ : F_X8_outSeenBy_L4 s x1 x2 x3 = some τ) (hC : (fun τ => r = (some (.int τ), (SH, s))) τ) : Rn N xs (d + 2) me118 4 [some (.ref 82), some (.int x1), some (.int x2), some (.int x3)] [] (SH, s) r :=
  whl_link (P := fun (v : (Int32 × Int32 × Int32)) => Rn N xs (d + 2) me118 4 [some (.ref 82), some (.int v.1), some (.int v.2.1), some (.int v.2.2)] [] (SH, s) r) (C := (C_X8_outSeenBy_4 N xs s d r (fun τ => r = (some (.int τ), (SH, s))))) (fun v τ h1 h2 => k_X8_outSeenBy_B4 d h1 h2) (fun _ h => h) (fun _ h => h) _ _ hJ hC
def F_X8_outSeenBy (s : mG) (a1 : Int32) : Option (Int32) :=
  F_X8_outSeenBy_L4 s a1 (ci 0) (ci 0)
set_option maxRecDepth 4000 in
theorem k_X8_outSeenBy_r {N : Nat} {xs : Nat → Int32} (d : Nat) {r : Option Value × mH} {s : mG} {a1 : Int32} {τ : (Int32)} (hJ : F_X8_outSeenBy s a1 = some τ) (hC : (fun τ => r = (some (.int τ), (SH, s))) τ) : Rn N xs (d + 2) me118 0 [some (.ref 82), some (.int a1), none, none] [] (SH, s) r := by
  unfold F_X8_outSeenBy at hJ
  refine Rn_sq srt118 0 4 (pc' := 4) (ls' := [some (.ref 82), some (.int a1), some (.int (ci 0)), some (.int (ci 0))]) (st' := []) (h1 := (SH, s)) rfl ?_
  exact (k_X8_outSeenBy_L4 d hJ hC)
theorem k_X8_outSeenBy {N : Nat} {xs : Nat → Int32} (d : Nat) {s : mG} {a1 : Int32} {τ : (Int32)} (hJ : F_X8_outSeenBy s a1 = some τ) : Rn N xs (d + 2) me118 0 [some (.ref 82), some (.int a1), none, none] [] (SH, s) (some (.int τ), (SH, s)) := k_X8_outSeenBy_r d hJ rfl
end
