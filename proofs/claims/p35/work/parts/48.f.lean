noncomputable section
/-! IsHeInModel.sign(II)I -/
theorem srt314 : m_srt mc314 = true := by decide +kernel
def F_X12_sign (s : mG) (a1 : Int32) (a2 : Int32) : Option (Int32) :=
  b1 (F_X12_isSign s a1) fun v2 =>
  if v2 = 0 then
    some (c8 (-2))
  else
    b1 (F_X12_isIn s a2 (ci 0) (ci 1)) fun v5 =>
    if v5 = 0 then
      b1 (F_X12_isGuest s (a2 - (ci 2))) fun v8 =>
      if v8 = 0 then
        some (c8 (-2))
      else
        if (((c8 39) + ((c8 6) * (a2 - (ci 2)))) + a1) < 0 ∨ 1894 ≤ (((c8 39) + ((c8 6) * (a2 - (ci 2)))) + a1).toNatClampNeg then none else
        some (s.1 89 (((c8 39) + ((c8 6) * (a2 - (ci 2)))) + a1).toNatClampNeg)
    else
      if (((c16 143) + ((ci 2) * a1)) + a2) < 0 ∨ 1894 ≤ (((c16 143) + ((ci 2) * a1)) + a2).toNatClampNeg then none else
      some (s.1 89 (((c16 143) + ((ci 2) * a1)) + a2).toNatClampNeg)
set_option maxRecDepth 4000 in
theorem k_X12_sign_r {N : Nat} {xs : Nat → Int32} (d : Nat) {r : Option Value × mH} {s : mG} {a1 : Int32} {a2 : Int32} {τ : (Int32)} (hJ : F_X12_sign s a1 a2 = some τ) (hC : (fun τ => r = (some (.int τ), (SH, s))) τ) : Rn N xs (d + 2) me314 0 [some (.ref 88), some (.int a1), some (.int a2)] [] (SH, s) r := by
  unfold F_X12_sign at hJ
  refine Rn_sq srt314 0 2 (pc' := 2) (ls' := [some (.ref 88), some (.int a1), some (.int a2)]) (st' := [(.int a1), (.ref 88)]) (h1 := (SH, s)) rfl ?_
  obtain ⟨v2, h1, hJ⟩ := m_b1 hJ
  refine Rn_call srt314 2 rfl rfl rfl ⟨Nat.le_of_ble_eq_true rfl, Nat.le_of_ble_eq_true rfl, rfl, Nat.le_of_ble_eq_true rfl⟩ (k_X12_isSign (d) h1) (show Rn N xs (d + 2) me314 5 [some (.ref 88), some (.int a1), some (.int a2)] [(.int v2)] (SH, s) r from ?_)
  refine Rn_sq srt314 3 1 (pc' := (if v2 = 0 then 8 else 11)) (ls' := [some (.ref 88), some (.int a1), some (.int a2)]) (st' := []) (h1 := (SH, s)) rfl (Rn_if (fun h3 => ?_) (fun h3 => ?_))
  · replace hJ := m_ifp h3 hJ
    refine Rn_sq srt314 4 1 (pc' := 10) (ls' := [some (.ref 88), some (.int a1), some (.int a2)]) (st' := [(.int (c8 (-2)))]) (h1 := (SH, s)) rfl ?_
    rw [← Option.some.inj hJ] at hC
    have hC : r = (some (.int (c8 (-2))), (SH, s)) := hC
    subst hC
    exact Rn_ret srt314 5 rfl rfl rfl
  · replace hJ := m_ifn h3 hJ
    refine Rn_sq srt314 6 3 (pc' := 14) (ls' := [some (.ref 88), some (.int a1), some (.int a2)]) (st' := [(.int (ci 1)), (.int (ci 0)), (.int a2)]) (h1 := (SH, s)) rfl ?_
    obtain ⟨v5, h4, hJ⟩ := m_b1 hJ
    refine Rn_call srt314 9 rfl rfl rfl ⟨Nat.le_of_ble_eq_true rfl, Nat.le_of_ble_eq_true rfl, rfl, Nat.le_of_ble_eq_true rfl⟩ (k_X12_isIn (d + 1) h4) (show Rn N xs (d + 2) me314 17 [some (.ref 88), some (.int a1), some (.int a2)] [(.int v5)] (SH, s) r from ?_)
    refine Rn_sq srt314 10 1 (pc' := (if v5 = 0 then 35 else 20)) (ls' := [some (.ref 88), some (.int a1), some (.int a2)]) (st' := []) (h1 := (SH, s)) rfl (Rn_if (fun h6 => ?_) (fun h6 => ?_))
    · replace hJ := m_ifp h6 hJ
      refine Rn_sq srt314 22 4 (pc' := 39) (ls' := [some (.ref 88), some (.int a1), some (.int a2)]) (st' := [(.int (a2 - (ci 2))), (.ref 88)]) (h1 := (SH, s)) rfl ?_
      obtain ⟨v8, h7, hJ⟩ := m_b1 hJ
      refine Rn_call srt314 26 rfl rfl rfl ⟨Nat.le_of_ble_eq_true rfl, Nat.le_of_ble_eq_true rfl, rfl, Nat.le_of_ble_eq_true rfl⟩ (k_X12_isGuest (d) h7) (show Rn N xs (d + 2) me314 42 [some (.ref 88), some (.int a1), some (.int a2)] [(.int v8)] (SH, s) r from ?_)
      refine Rn_sq srt314 27 1 (pc' := (if v8 = 0 then 64 else 45)) (ls' := [some (.ref 88), some (.int a1), some (.int a2)]) (st' := []) (h1 := (SH, s)) rfl (Rn_if (fun h9 => ?_) (fun h9 => ?_))
      · replace hJ := m_ifp h9 hJ
        refine Rn_sq srt314 41 1 (pc' := 66) (ls' := [some (.ref 88), some (.int a1), some (.int a2)]) (st' := [(.int (c8 (-2)))]) (h1 := (SH, s)) rfl ?_
        rw [← Option.some.inj hJ] at hC
        have hC : r = (some (.int (c8 (-2))), (SH, s)) := hC
        subst hC
        exact Rn_ret srt314 42 rfl rfl rfl
      · replace hJ := m_ifn h9 hJ
        refine Rn_sq srt314 28 11 (pc' := 60) (ls' := [some (.ref 88), some (.int a1), some (.int a2)]) (st' := [(.int (((c8 39) + ((c8 6) * (a2 - (ci 2)))) + a1)), (.ref 89)]) (h1 := (SH, s)) rfl ?_
        obtain ⟨h10, hJ⟩ := m_gn hJ
        refine Rn_ev srt314 39 rfl rfl rfl (op_ia sh89 h10 (k := (((c8 39) + ((c8 6) * (a2 - (ci 2)))) + a1).toNatClampNeg) rfl) ?_
        refine Rn_sq srt314 40 1 (pc' := 66) (ls' := [some (.ref 88), some (.int a1), some (.int a2)]) (st' := [(.int (s.1 89 (((c8 39) + ((c8 6) * (a2 - (ci 2)))) + a1).toNatClampNeg))]) (h1 := (SH, s)) rfl ?_
        rw [← Option.some.inj hJ] at hC
        have hC : r = (some (.int (s.1 89 (((c8 39) + ((c8 6) * (a2 - (ci 2)))) + a1).toNatClampNeg)), (SH, s)) := hC
        subst hC
        exact Rn_ret srt314 42 rfl rfl rfl
    · replace hJ := m_ifn h6 hJ
      refine Rn_sq srt314 11 9 (pc' := 33) (ls' := [some (.ref 88), some (.int a1), some (.int a2)]) (st' := [(.int (((c16 143) + ((ci 2) * a1)) + a2)), (.ref 89)]) (h1 := (SH, s)) rfl ?_
      obtain ⟨h11, hJ⟩ := m_gn hJ
      refine Rn_ev srt314 20 rfl rfl rfl (op_ia sh89 h11 (k := (((c16 143) + ((ci 2) * a1)) + a2).toNatClampNeg) rfl) ?_
      rw [← Option.some.inj hJ] at hC
      have hC : r = (some (.int (s.1 89 (((c16 143) + ((ci 2) * a1)) + a2).toNatClampNeg)), (SH, s)) := hC
      subst hC
      exact Rn_ret srt314 21 rfl rfl rfl
theorem k_X12_sign {N : Nat} {xs : Nat → Int32} (d : Nat) {s : mG} {a1 : Int32} {a2 : Int32} {τ : (Int32)} (hJ : F_X12_sign s a1 a2 = some τ) : Rn N xs (d + 2) me314 0 [some (.ref 88), some (.int a1), some (.int a2)] [] (SH, s) (some (.int τ), (SH, s)) := k_X12_sign_r d hJ rfl
/-! IsHeInModel.book(II)I -/
theorem srt315 : m_srt mc315 = true := by decide +kernel
def F_X12_book_42 (s : mG) : Option (Int32) :=
  some (c8 (-2))
set_option maxRecDepth 4000 in
theorem k_X12_book_42 {N : Nat} {xs : Nat → Int32} (d : Nat) {r : Option Value × mH} {s : mG} {τ : (Int32)} (hJ : F_X12_book_42 s = some τ) (hC : (fun τ => r = (some (.int τ), (SH, s))) τ) : Rn N xs (d + 1) me315 42 [none, none, none] [] (SH, s) r := by
  unfold F_X12_book_42 at hJ
  refine Rn_sq srt315 26 1 (pc' := 44) (ls' := [none, none, none]) (st' := [(.int (c8 (-2)))]) (h1 := (SH, s)) rfl ?_
  rw [← Option.some.inj hJ] at hC
  have hC : r = (some (.int (c8 (-2))), (SH, s)) := hC
  subst hC
  exact Rn_ret srt315 27 rfl rfl rfl
def F_X12_book (s : mG) (a1 : Int32) (a2 : Int32) : Option (Int32) :=
  b1 (F_X12_isIn s a1 (ci 0) ((s.1 89 2) - (ci 1))) fun v2 =>
  if v2 = 0 then
    F_X12_book_42 s
  else
    b1 (F_X12_isIn s a2 (ci 0) (ci 4)) fun v5 =>
    if v5 = 0 then
      F_X12_book_42 s
    else
      if (((c16 235) + ((ci 5) * a1)) + a2) < 0 ∨ 1894 ≤ (((c16 235) + ((ci 5) * a1)) + a2).toNatClampNeg then none else
      some (s.1 89 (((c16 235) + ((ci 5) * a1)) + a2).toNatClampNeg)
set_option maxRecDepth 4000 in
theorem k_X12_book_r {N : Nat} {xs : Nat → Int32} (d : Nat) {r : Option Value × mH} {s : mG} {a1 : Int32} {a2 : Int32} {τ : (Int32)} (hJ : F_X12_book s a1 a2 = some τ) (hC : (fun τ => r = (some (.int τ), (SH, s))) τ) : Rn N xs (d + 1) me315 0 [some (.ref 88), some (.int a1), some (.int a2)] [] (SH, s) r := by
  unfold F_X12_book at hJ
  refine Rn_sq srt315 0 5 (pc' := 7) (ls' := [some (.ref 88), some (.int a1), some (.int a2)]) (st' := [(.int (ci 2)), (.ref 89), (.int (ci 0)), (.int a1)]) (h1 := (SH, s)) rfl ?_
  refine Rn_ev srt315 5 rfl rfl rfl (op_ia sh89 (by decide) (k := 2) rfl) ?_
  refine Rn_sq srt315 6 2 (pc' := 10) (ls' := [some (.ref 88), some (.int a1), some (.int a2)]) (st' := [(.int ((s.1 89 2) - (ci 1))), (.int (ci 0)), (.int a1)]) (h1 := (SH, s)) rfl ?_
  obtain ⟨v2, h1, hJ⟩ := m_b1 hJ
  refine Rn_call srt315 8 rfl rfl rfl ⟨Nat.le_of_ble_eq_true rfl, Nat.le_of_ble_eq_true rfl, rfl, Nat.le_of_ble_eq_true rfl⟩ (k_X12_isIn (d) h1) (show Rn N xs (d + 1) me315 13 [some (.ref 88), some (.int a1), some (.int a2)] [(.int v2)] (SH, s) r from ?_)
  refine Rn_sq srt315 9 1 (pc' := (if v2 = 0 then 42 else 16)) (ls' := [some (.ref 88), some (.int a1), some (.int a2)]) (st' := []) (h1 := (SH, s)) rfl (Rn_if (fun h3 => ?_) (fun h3 => ?_))
  · replace hJ := m_ifp h3 hJ
    exact Rn_weaken (a := [none, none, none]) (b := [some (.ref 88), some (.int a1), some (.int a2)]) trivial rfl (k_X12_book_42 d hJ hC)
  · replace hJ := m_ifn h3 hJ
    refine Rn_sq srt315 10 3 (pc' := 19) (ls' := [some (.ref 88), some (.int a1), some (.int a2)]) (st' := [(.int (ci 4)), (.int (ci 0)), (.int a2)]) (h1 := (SH, s)) rfl ?_
    obtain ⟨v5, h4, hJ⟩ := m_b1 hJ
    refine Rn_call srt315 13 rfl rfl rfl ⟨Nat.le_of_ble_eq_true rfl, Nat.le_of_ble_eq_true rfl, rfl, Nat.le_of_ble_eq_true rfl⟩ (k_X12_isIn (d) h4) (show Rn N xs (d + 1) me315 22 [some (.ref 88), some (.int a1), some (.int a2)] [(.int v5)] (SH, s) r from ?_)
    refine Rn_sq srt315 14 1 (pc' := (if v5 = 0 then 42 else 25)) (ls' := [some (.ref 88), some (.int a1), some (.int a2)]) (st' := []) (h1 := (SH, s)) rfl (Rn_if (fun h6 => ?_) (fun h6 => ?_))
    · replace hJ := m_ifp h6 hJ
      exact Rn_weaken (a := [none, none, none]) (b := [some (.ref 88), some (.int a1), some (.int a2)]) trivial rfl (k_X12_book_42 d hJ hC)
    · replace hJ := m_ifn h6 hJ
      refine Rn_sq srt315 15 9 (pc' := 38) (ls' := [some (.ref 88), some (.int a1), some (.int a2)]) (st' := [(.int (((c16 235) + ((ci 5) * a1)) + a2)), (.ref 89)]) (h1 := (SH, s)) rfl ?_
      obtain ⟨h7, hJ⟩ := m_gn hJ
      refine Rn_ev srt315 24 rfl rfl rfl (op_ia sh89 h7 (k := (((c16 235) + ((ci 5) * a1)) + a2).toNatClampNeg) rfl) ?_
      refine Rn_sq srt315 25 1 (pc' := 44) (ls' := [some (.ref 88), some (.int a1), some (.int a2)]) (st' := [(.int (s.1 89 (((c16 235) + ((ci 5) * a1)) + a2).toNatClampNeg))]) (h1 := (SH, s)) rfl ?_
      rw [← Option.some.inj hJ] at hC
      have hC : r = (some (.int (s.1 89 (((c16 235) + ((ci 5) * a1)) + a2).toNatClampNeg)), (SH, s)) := hC
      subst hC
      exact Rn_ret srt315 27 rfl rfl rfl
theorem k_X12_book {N : Nat} {xs : Nat → Int32} (d : Nat) {s : mG} {a1 : Int32} {a2 : Int32} {τ : (Int32)} (hJ : F_X12_book s a1 a2 = some τ) : Rn N xs (d + 1) me315 0 [some (.ref 88), some (.int a1), some (.int a2)] [] (SH, s) (some (.int τ), (SH, s)) := k_X12_book_r d hJ rfl
/-! IsHeInModel.image(Z)Z -/
theorem srt316 : m_srt mc316 = true := by decide +kernel
def C_X12_image_15 (N : Nat) (xs : Nat → Int32) (d : Nat) (r : Option Value × mH) (C : (Int32 × mG) → Prop) : ((Int32 × Int32 × mG) ⊕ (Int32 × mG)) → Prop
  | .inl v => Rn N xs (d + 1) me316 15 [some (.ref 88), some (.int v.1), some (.int v.2.1)] [] (SH, v.2.2) r
  | .inr a => C a
def F_X12_image_67 (s : mG) : Option (Int32 × mG) :=
  let s7 : mG := (mu s.1 88 4 (ci 1), s.2)
  some ((ci 1), s7)
set_option maxRecDepth 4000 in
theorem k_X12_image_67 {N : Nat} {xs : Nat → Int32} (d : Nat) {r : Option Value × mH} {s : mG} {τ : (Int32 × mG)} (hJ : F_X12_image_67 s = some τ) (hC : (fun τ => r = (some (.int τ.1), (SH, τ.2))) τ) : Rn N xs (d + 1) me316 67 [some (.ref 88), none, none] [] (SH, s) r := by
  unfold F_X12_image_67 at hJ
  extract_lets +onlyGivenNames s7 at hJ
  refine Rn_sq srt316 37 4 (pc' := 73) (ls' := [some (.ref 88), none, none]) (st' := [(.int (ci 1))]) (h1 := (SH, s7)) rfl ?_
  rw [← Option.some.inj hJ] at hC
  have hC : r = (some (.int (ci 1)), (SH, s7)) := hC
  subst hC
  exact Rn_ret srt316 41 rfl rfl (m_ret_b rfl (by decide))
def F_X12_image_53 (x1 : Int32) (x2 : Int32) (s : mG) : Option ((Int32 × Int32 × mG) ⊕ (Int32 × mG)) :=
  some (Sum.inl (x1, (x2 + ci 1), s))
set_option maxRecDepth 4000 in
theorem k_X12_image_53 {N : Nat} {xs : Nat → Int32} (d : Nat) {r : Option Value × mH} {s : mG} {x1 : Int32} {x2 : Int32} {τ : ((Int32 × Int32 × mG) ⊕ (Int32 × mG))} (hJ : F_X12_image_53 x1 x2 s = some τ) (hC : (C_X12_image_15 N xs d r (fun τ => r = (some (.int τ.1), (SH, τ.2)))) τ) : Rn N xs (d + 1) me316 53 [some (.ref 88), some (.int x1), some (.int x2)] [] (SH, s) r := by
  unfold F_X12_image_53 at hJ
  refine Rn_sq srt316 31 2 (pc' := 15) (ls' := [some (.ref 88), some (.int x1), some (.int (x2 + ci 1))]) (st' := []) (h1 := (SH, s)) rfl ?_
  rw [← Option.some.inj hJ] at hC
  exact hC
def F_X12_image_B15 (x1 : Int32) (x2 : Int32) (s : mG) : Option ((Int32 × Int32 × mG) ⊕ (Int32 × mG)) :=
  if (c16 1894) ≤ x2 then
    if x1 = 0 then
      b1 (F_X12_forgets s) fun s6 =>
      b1 (F_X12_image_67 s6) fun τ => some (Sum.inr τ)
    else
      b1 (F_X12_image_67 s) fun τ => some (Sum.inr τ)
  else
    if x1 = 0 then
      if x2 < 0 ∨ 1894 ≤ x2.toNatClampNeg then none else
      if x2 < 0 ∨ 1894 ≤ x2.toNatClampNeg then none else
      let s11 : mG := (mu s.1 89 x2.toNatClampNeg (s.1 90 x2.toNatClampNeg), s.2)
      F_X12_image_53 x1 x2 s11
    else
      if x2 < 0 ∨ 1894 ≤ x2.toNatClampNeg then none else
      if x2 < 0 ∨ 1894 ≤ x2.toNatClampNeg then none else
      let s14 : mG := (mu s.1 90 x2.toNatClampNeg (s.1 89 x2.toNatClampNeg), s.2)
      F_X12_image_53 x1 x2 s14
set_option maxRecDepth 4000 in
theorem k_X12_image_B15 {N : Nat} {xs : Nat → Int32} (d : Nat) {r : Option Value × mH} {s : mG} {x1 : Int32} {x2 : Int32} {τ : ((Int32 × Int32 × mG) ⊕ (Int32 × mG))} (hJ : F_X12_image_B15 x1 x2 s = some τ) (hC : (C_X12_image_15 N xs d r (fun τ => r = (some (.int τ.1), (SH, τ.2)))) τ) : Rn N xs (d + 1) me316 15 [some (.ref 88), some (.int x1), some (.int x2)] [] (SH, s) r := by
  unfold F_X12_image_B15 at hJ
  refine Rn_sq srt316 9 3 (pc' := (if (c16 1894) ≤ x2 then 59 else 22)) (ls' := [some (.ref 88), some (.int x1), some (.int x2)]) (st' := []) (h1 := (SH, s)) rfl (Rn_if (fun h3 => ?_) (fun h3 => ?_))
  · replace hJ := m_ifp h3 hJ
    refine Rn_sq srt316 33 2 (pc' := (if x1 = 0 then 63 else 67)) (ls' := [some (.ref 88), some (.int x1), some (.int x2)]) (st' := []) (h1 := (SH, s)) rfl (Rn_if (fun h4 => ?_) (fun h4 => ?_))
    · replace hJ := m_ifp h4 hJ
      refine Rn_sq srt316 35 1 (pc' := 64) (ls' := [some (.ref 88), some (.int x1), some (.int x2)]) (st' := [(.ref 88)]) (h1 := (SH, s)) rfl ?_
      obtain ⟨s6, h5, hJ⟩ := m_b1 hJ
      refine Rn_call srt316 36 rfl rfl rfl ⟨Nat.le_of_ble_eq_true rfl, Nat.le_of_ble_eq_true rfl, rfl, Nat.le_of_ble_eq_true rfl⟩ (k_X12_forgets (d) h5) (show Rn N xs (d + 1) me316 67 [some (.ref 88), some (.int x1), some (.int x2)] [] (SH, s6) r from ?_)
      obtain ⟨τ1, hJ1, hJ⟩ := m_b1 hJ
      rw [← Option.some.inj hJ] at hC
      exact Rn_weaken (a := [some (.ref 88), none, none]) (b := [some (.ref 88), some (.int x1), some (.int x2)]) (And.intro rfl trivial) rfl (k_X12_image_67 d hJ1 hC)
    · replace hJ := m_ifn h4 hJ
      obtain ⟨τ1, hJ1, hJ⟩ := m_b1 hJ
      rw [← Option.some.inj hJ] at hC
      exact Rn_weaken (a := [some (.ref 88), none, none]) (b := [some (.ref 88), some (.int x1), some (.int x2)]) (And.intro rfl trivial) rfl (k_X12_image_67 d hJ1 hC)
  · replace hJ := m_ifn h3 hJ
    refine Rn_sq srt316 12 2 (pc' := (if x1 = 0 then 41 else 26)) (ls' := [some (.ref 88), some (.int x1), some (.int x2)]) (st' := []) (h1 := (SH, s)) rfl (Rn_if (fun h8 => ?_) (fun h8 => ?_))
    · replace hJ := m_ifp h8 hJ
      refine Rn_sq srt316 23 6 (pc' := 51) (ls' := [some (.ref 88), some (.int x1), some (.int x2)]) (st' := [(.int x2), (.ref 90), (.int x2), (.ref 89)]) (h1 := (SH, s)) rfl ?_
      obtain ⟨h9, hJ⟩ := m_gn hJ
      refine Rn_ev srt316 29 rfl rfl rfl (op_ia sh90 h9 (k := x2.toNatClampNeg) rfl) ?_
      obtain ⟨h10, hJ⟩ := m_gn hJ
      extract_lets +onlyGivenNames s11 at hJ
      refine Rn_ev srt316 30 rfl rfl rfl (op_ias sh89 h10 (k := x2.toNatClampNeg) rfl) ?_
      exact (k_X12_image_53 d hJ hC)
    · replace hJ := m_ifn h8 hJ
      refine Rn_sq srt316 14 6 (pc' := 36) (ls' := [some (.ref 88), some (.int x1), some (.int x2)]) (st' := [(.int x2), (.ref 89), (.int x2), (.ref 90)]) (h1 := (SH, s)) rfl ?_
      obtain ⟨h12, hJ⟩ := m_gn hJ
      refine Rn_ev srt316 20 rfl rfl rfl (op_ia sh89 h12 (k := x2.toNatClampNeg) rfl) ?_
      obtain ⟨h13, hJ⟩ := m_gn hJ
      extract_lets +onlyGivenNames s14 at hJ
      refine Rn_ev srt316 21 rfl rfl rfl (op_ias sh90 h13 (k := x2.toNatClampNeg) rfl) ?_
      refine Rn_sq srt316 22 1 (pc' := 53) (ls' := [some (.ref 88), some (.int x1), some (.int x2)]) (st' := []) (h1 := (SH, s14)) rfl ?_
      exact (k_X12_image_53 d hJ hC)
def F_X12_image_L15 (x1 : Int32) (x2 : Int32) (s : mG) : Option (Int32 × mG) := whl (fun (v : (Int32 × Int32 × mG)) => F_X12_image_B15 v.1 v.2.1 v.2.2) (x1, x2, s)
theorem k_X12_image_L15 {N : Nat} {xs : Nat → Int32} (d : Nat) {r : Option Value × mH} {s : mG} {x1 : Int32} {x2 : Int32} {τ : (Int32 × mG)} (hJ : F_X12_image_L15 x1 x2 s = some τ) (hC : (fun τ => r = (some (.int τ.1), (SH, τ.2))) τ) : Rn N xs (d + 1) me316 15 [some (.ref 88), some (.int x1), some (.int x2)] [] (SH, s) r :=
  whl_link (P := fun (v : (Int32 × Int32 × mG)) => Rn N xs (d + 1) me316 15 [some (.ref 88), some (.int v.1), some (.int v.2.1)] [] (SH, v.2.2) r) (C := (C_X12_image_15 N xs d r (fun τ => r = (some (.int τ.1), (SH, τ.2))))) (fun v τ h1 h2 => k_X12_image_B15 d h1 h2) (fun _ h => h) (fun _ h => h) _ _ hJ hC
def F_X12_image_13 (x1 : Int32) (s : mG) : Option (Int32 × mG) :=
  F_X12_image_L15 x1 (ci 0) s
set_option maxRecDepth 4000 in
theorem k_X12_image_13 {N : Nat} {xs : Nat → Int32} (d : Nat) {r : Option Value × mH} {s : mG} {x1 : Int32} {τ : (Int32 × mG)} (hJ : F_X12_image_13 x1 s = some τ) (hC : (fun τ => r = (some (.int τ.1), (SH, τ.2))) τ) : Rn N xs (d + 1) me316 13 [some (.ref 88), some (.int x1), none] [] (SH, s) r := by
  unfold F_X12_image_13 at hJ
  refine Rn_sq srt316 7 2 (pc' := 15) (ls' := [some (.ref 88), some (.int x1), some (.int (ci 0))]) (st' := []) (h1 := (SH, s)) rfl ?_
  exact (k_X12_image_L15 d hJ hC)
def F_X12_image (a1 : Int32) (s : mG) : Option (Int32 × mG) :=
  if a1 = 0 then
    if (s.1 88 4) = 0 then
      some ((ci 0), s)
    else
      F_X12_image_13 a1 s
  else
    F_X12_image_13 a1 s
set_option maxRecDepth 4000 in
theorem k_X12_image_r {N : Nat} {xs : Nat → Int32} (d : Nat) {r : Option Value × mH} {s : mG} {a1 : Int32} {τ : (Int32 × mG)} (hJ : F_X12_image a1 s = some τ) (hC : (fun τ => r = (some (.int τ.1), (SH, τ.2))) τ) : Rn N xs (d + 1) me316 0 [some (.ref 88), some (.int a1), none] [] (SH, s) r := by
  unfold F_X12_image at hJ
  refine Rn_sq srt316 0 2 (pc' := (if a1 = 0 then 4 else 13)) (ls' := [some (.ref 88), some (.int a1), none]) (st' := []) (h1 := (SH, s)) rfl (Rn_if (fun h1 => ?_) (fun h1 => ?_))
  · replace hJ := m_ifp h1 hJ
    refine Rn_sq srt316 2 3 (pc' := (if (s.1 88 4) = 0 then 11 else 13)) (ls' := [some (.ref 88), some (.int a1), none]) (st' := []) (h1 := (SH, s)) rfl (Rn_if (fun h2 => ?_) (fun h2 => ?_))
    · replace hJ := m_ifp h2 hJ
      refine Rn_sq srt316 5 1 (pc' := 12) (ls' := [some (.ref 88), some (.int a1), none]) (st' := [(.int (ci 0))]) (h1 := (SH, s)) rfl ?_
      rw [← Option.some.inj hJ] at hC
      have hC : r = (some (.int (ci 0)), (SH, s)) := hC
      subst hC
      exact Rn_ret srt316 6 rfl rfl (m_ret_b rfl (by decide))
    · replace hJ := m_ifn h2 hJ
      exact (k_X12_image_13 d hJ hC)
  · replace hJ := m_ifn h1 hJ
    exact (k_X12_image_13 d hJ hC)
theorem k_X12_image {N : Nat} {xs : Nat → Int32} (d : Nat) {s : mG} {a1 : Int32} {τ : (Int32 × mG)} (hJ : F_X12_image a1 s = some τ) : Rn N xs (d + 1) me316 0 [some (.ref 88), some (.int a1), none] [] (SH, s) (some (.int τ.1), (SH, τ.2)) := k_X12_image_r d hJ rfl
/-! IsHeInModel.outs()I -/
theorem srt317 : m_srt mc317 = true := by decide +kernel
def C_X12_outs_4 (N : Nat) (xs : Nat → Int32) (s : mG) (d : Nat) (r : Option Value × mH) (C : (Int32) → Prop) : ((Int32 × Int32) ⊕ (Int32)) → Prop
  | .inl v => Rn N xs (d + 0) me317 4 [some (.ref 88), some (.int v.1), some (.int v.2)] [] (SH, s) r
  | .inr a => C a
def F_X12_outs_B4 (s : mG) (x1 : Int32) (x2 : Int32) : Option ((Int32 × Int32) ⊕ (Int32)) :=
  if (s.1 89 112) ≤ x2 then
    some (Sum.inr x1)
  else
    if ((ci 3) + x2) < 0 ∨ 1894 ≤ ((ci 3) + x2).toNatClampNeg then none else
    let v3 : Int32 := (x1 ||| ((s.1 89 ((ci 3) + x2).toNatClampNeg) <<< (x2 &&& 31)))
    some (Sum.inl (v3, (x2 + ci 1)))
set_option maxRecDepth 4000 in
theorem k_X12_outs_B4 {N : Nat} {xs : Nat → Int32} (d : Nat) {r : Option Value × mH} {s : mG} {x1 : Int32} {x2 : Int32} {τ : ((Int32 × Int32) ⊕ (Int32))} (hJ : F_X12_outs_B4 s x1 x2 = some τ) (hC : (C_X12_outs_4 N xs s d r (fun τ => r = (some (.int τ), (SH, s)))) τ) : Rn N xs (d + 0) me317 4 [some (.ref 88), some (.int x1), some (.int x2)] [] (SH, s) r := by
  unfold F_X12_outs_B4 at hJ
  refine Rn_sq srt317 4 4 (pc' := 11) (ls' := [some (.ref 88), some (.int x1), some (.int x2)]) (st' := [(.int (c8 112)), (.ref 89), (.int x2)]) (h1 := (SH, s)) rfl ?_
  refine Rn_ev srt317 8 rfl rfl rfl (op_ia sh89 (by decide) (k := 112) rfl) ?_
  refine Rn_sq srt317 9 1 (pc' := (if (s.1 89 112) ≤ x2 then 34 else 15)) (ls' := [some (.ref 88), some (.int x1), some (.int x2)]) (st' := []) (h1 := (SH, s)) rfl (Rn_if (fun h1 => ?_) (fun h1 => ?_))
  · replace hJ := m_ifp h1 hJ
    refine Rn_sq srt317 23 1 (pc' := 35) (ls' := [some (.ref 88), some (.int x1), some (.int x2)]) (st' := [(.int x1)]) (h1 := (SH, s)) rfl ?_
    rw [← Option.some.inj hJ] at hC
    have hC : r = (some (.int x1), (SH, s)) := hC
    subst hC
    exact Rn_ret srt317 24 rfl rfl rfl
  · replace hJ := m_ifn h1 hJ
    refine Rn_sq srt317 10 6 (pc' := 23) (ls' := [some (.ref 88), some (.int x1), some (.int x2)]) (st' := [(.int ((ci 3) + x2)), (.ref 89), (.int x1)]) (h1 := (SH, s)) rfl ?_
    obtain ⟨h2, hJ⟩ := m_gn hJ
    refine Rn_ev srt317 16 rfl rfl rfl (op_ia sh89 h2 (k := ((ci 3) + x2).toNatClampNeg) rfl) ?_
    extract_lets +onlyGivenNames v3 at hJ
    refine Rn_sq srt317 17 6 (pc' := 4) (ls' := [some (.ref 88), some (.int v3), some (.int (x2 + ci 1))]) (st' := []) (h1 := (SH, s)) rfl ?_
    rw [← Option.some.inj hJ] at hC
    exact hC
def F_X12_outs_L4 (s : mG) (x1 : Int32) (x2 : Int32) : Option (Int32) := whl (fun (v : (Int32 × Int32)) => F_X12_outs_B4 s v.1 v.2) (x1, x2)
theorem k_X12_outs_L4 {N : Nat} {xs : Nat → Int32} (d : Nat) {r : Option Value × mH} {s : mG} {x1 : Int32} {x2 : Int32} {τ : (Int32)} (hJ : F_X12_outs_L4 s x1 x2 = some τ) (hC : (fun τ => r = (some (.int τ), (SH, s))) τ) : Rn N xs (d + 0) me317 4 [some (.ref 88), some (.int x1), some (.int x2)] [] (SH, s) r :=
  whl_link (P := fun (v : (Int32 × Int32)) => Rn N xs (d + 0) me317 4 [some (.ref 88), some (.int v.1), some (.int v.2)] [] (SH, s) r) (C := (C_X12_outs_4 N xs s d r (fun τ => r = (some (.int τ), (SH, s))))) (fun v τ h1 h2 => k_X12_outs_B4 d h1 h2) (fun _ h => h) (fun _ h => h) _ _ hJ hC
def F_X12_outs (s : mG) : Option (Int32) :=
  F_X12_outs_L4 s (ci 0) (ci 0)
set_option maxRecDepth 4000 in
theorem k_X12_outs_r {N : Nat} {xs : Nat → Int32} (d : Nat) {r : Option Value × mH} {s : mG} {τ : (Int32)} (hJ : F_X12_outs s = some τ) (hC : (fun τ => r = (some (.int τ), (SH, s))) τ) : Rn N xs (d + 0) me317 0 [some (.ref 88), none, none] [] (SH, s) r := by
  unfold F_X12_outs at hJ
  refine Rn_sq srt317 0 4 (pc' := 4) (ls' := [some (.ref 88), some (.int (ci 0)), some (.int (ci 0))]) (st' := []) (h1 := (SH, s)) rfl ?_
  exact (k_X12_outs_L4 d hJ hC)
theorem k_X12_outs {N : Nat} {xs : Nat → Int32} (d : Nat) {s : mG} {τ : (Int32)} (hJ : F_X12_outs s = some τ) : Rn N xs (d + 0) me317 0 [some (.ref 88), none, none] [] (SH, s) (some (.int τ), (SH, s)) := k_X12_outs_r d hJ rfl
/-! IsHeInModel.hooksWithKeys()I -/
theorem srt318 : m_srt mc318 = true := by decide +kernel
def C_X12_hooksWithKeys_4 (N : Nat) (xs : Nat → Int32) (s : mG) (d : Nat) (r : Option Value × mH) (C : (Int32) → Prop) : ((Int32 × Int32) ⊕ (Int32)) → Prop
  | .inl v => Rn N xs (d + 0) me318 4 [some (.ref 88), some (.int v.1), some (.int v.2)] [] (SH, s) r
  | .inr a => C a
def F_X12_hooksWithKeys_44 (s : mG) (x2 : Int32) (y0 : Int32) (y1 : Int32) : Option ((Int32 × Int32) ⊕ (Int32)) :=
  some (Sum.inl ((y0 ||| y1), (x2 + ci 1)))
set_option maxRecDepth 4000 in
theorem k_X12_hooksWithKeys_44 {N : Nat} {xs : Nat → Int32} (d : Nat) {r : Option Value × mH} {s : mG} {x2 : Int32} {y0 : Int32} {y1 : Int32} {τ : ((Int32 × Int32) ⊕ (Int32))} (hJ : F_X12_hooksWithKeys_44 s x2 y0 y1 = some τ) (hC : (C_X12_hooksWithKeys_4 N xs s d r (fun τ => r = (some (.int τ), (SH, s)))) τ) : Rn N xs (d + 0) me318 44 [some (.ref 88), none, some (.int x2)] [(.int y1), (.int y0)] (SH, s) r := by
  unfold F_X12_hooksWithKeys_44 at hJ
  refine Rn_sq srt318 29 4 (pc' := 4) (ls' := [some (.ref 88), some (.int (y0 ||| y1)), some (.int (x2 + ci 1))]) (st' := []) (h1 := (SH, s)) rfl ?_
  rw [← Option.some.inj hJ] at hC
  exact hC
def F_X12_hooksWithKeys_B4 (s : mG) (x1 : Int32) (x2 : Int32) : Option ((Int32 × Int32) ⊕ (Int32)) :=
  if (s.1 89 112) ≤ x2 then
    some (Sum.inr x1)
  else
    if ((c8 15) + x2) < 0 ∨ 1894 ≤ ((c8 15) + x2).toNatClampNeg then none else
    if (s.1 89 ((c8 15) + x2).toNatClampNeg) = (ci (-1)) then
      F_X12_hooksWithKeys_44 s x2 x1 (ci 0)
    else
      if ((c8 15) + x2) < 0 ∨ 1894 ≤ ((c8 15) + x2).toNatClampNeg then none else
      F_X12_hooksWithKeys_44 s x2 x1 ((ci 1) <<< ((s.1 89 ((c8 15) + x2).toNatClampNeg) &&& 31))
set_option maxRecDepth 4000 in
theorem k_X12_hooksWithKeys_B4 {N : Nat} {xs : Nat → Int32} (d : Nat) {r : Option Value × mH} {s : mG} {x1 : Int32} {x2 : Int32} {τ : ((Int32 × Int32) ⊕ (Int32))} (hJ : F_X12_hooksWithKeys_B4 s x1 x2 = some τ) (hC : (C_X12_hooksWithKeys_4 N xs s d r (fun τ => r = (some (.int τ), (SH, s)))) τ) : Rn N xs (d + 0) me318 4 [some (.ref 88), some (.int x1), some (.int x2)] [] (SH, s) r := by
  unfold F_X12_hooksWithKeys_B4 at hJ
  refine Rn_sq srt318 4 4 (pc' := 11) (ls' := [some (.ref 88), some (.int x1), some (.int x2)]) (st' := [(.int (c8 112)), (.ref 89), (.int x2)]) (h1 := (SH, s)) rfl ?_
  refine Rn_ev srt318 8 rfl rfl rfl (op_ia sh89 (by decide) (k := 112) rfl) ?_
  refine Rn_sq srt318 9 1 (pc' := (if (s.1 89 112) ≤ x2 then 52 else 15)) (ls' := [some (.ref 88), some (.int x1), some (.int x2)]) (st' := []) (h1 := (SH, s)) rfl (Rn_if (fun h1 => ?_) (fun h1 => ?_))
  · replace hJ := m_ifp h1 hJ
    refine Rn_sq srt318 33 1 (pc' := 53) (ls' := [some (.ref 88), some (.int x1), some (.int x2)]) (st' := [(.int x1)]) (h1 := (SH, s)) rfl ?_
    rw [← Option.some.inj hJ] at hC
    have hC : r = (some (.int x1), (SH, s)) := hC
    subst hC
    exact Rn_ret srt318 34 rfl rfl rfl
  · replace hJ := m_ifn h1 hJ
    refine Rn_sq srt318 10 6 (pc' := 24) (ls' := [some (.ref 88), some (.int x1), some (.int x2)]) (st' := [(.int ((c8 15) + x2)), (.ref 89), (.int x1)]) (h1 := (SH, s)) rfl ?_
    obtain ⟨h2, hJ⟩ := m_gn hJ
    refine Rn_ev srt318 16 rfl rfl rfl (op_ia sh89 h2 (k := ((c8 15) + x2).toNatClampNeg) rfl) ?_
    refine Rn_sq srt318 17 2 (pc' := (if (s.1 89 ((c8 15) + x2).toNatClampNeg) = (ci (-1)) then 43 else 29)) (ls' := [some (.ref 88), some (.int x1), some (.int x2)]) (st' := [(.int x1)]) (h1 := (SH, s)) rfl (Rn_if (fun h3 => ?_) (fun h3 => ?_))
    · replace hJ := m_ifp h3 hJ
      refine Rn_sq srt318 28 1 (pc' := 44) (ls' := [some (.ref 88), some (.int x1), some (.int x2)]) (st' := [(.int (ci 0)), (.int x1)]) (h1 := (SH, s)) rfl ?_
      exact Rn_weaken (a := [some (.ref 88), none, some (.int x2)]) (b := [some (.ref 88), some (.int x1), some (.int x2)]) (And.intro rfl (And.intro rfl trivial)) rfl (k_X12_hooksWithKeys_44 d hJ hC)
    · replace hJ := m_ifn h3 hJ
      refine Rn_sq srt318 19 6 (pc' := 38) (ls' := [some (.ref 88), some (.int x1), some (.int x2)]) (st' := [(.int ((c8 15) + x2)), (.ref 89), (.int (ci 1)), (.int x1)]) (h1 := (SH, s)) rfl ?_
      obtain ⟨h4, hJ⟩ := m_gn hJ
      refine Rn_ev srt318 25 rfl rfl rfl (op_ia sh89 h4 (k := ((c8 15) + x2).toNatClampNeg) rfl) ?_
      refine Rn_sq srt318 26 2 (pc' := 44) (ls' := [some (.ref 88), some (.int x1), some (.int x2)]) (st' := [(.int ((ci 1) <<< ((s.1 89 ((c8 15) + x2).toNatClampNeg) &&& 31))), (.int x1)]) (h1 := (SH, s)) rfl ?_
      exact Rn_weaken (a := [some (.ref 88), none, some (.int x2)]) (b := [some (.ref 88), some (.int x1), some (.int x2)]) (And.intro rfl (And.intro rfl trivial)) rfl (k_X12_hooksWithKeys_44 d hJ hC)
def F_X12_hooksWithKeys_L4 (s : mG) (x1 : Int32) (x2 : Int32) : Option (Int32) := whl (fun (v : (Int32 × Int32)) => F_X12_hooksWithKeys_B4 s v.1 v.2) (x1, x2)
theorem k_X12_hooksWithKeys_L4 {N : Nat} {xs : Nat → Int32} (d : Nat) {r : Option Value × mH} {s : mG} {x1 : Int32} {x2 : Int32} {τ : (Int32)} (hJ : F_X12_hooksWithKeys_L4 s x1 x2 = some τ) (hC : (fun τ => r = (some (.int τ), (SH, s))) τ) : Rn N xs (d + 0) me318 4 [some (.ref 88), some (.int x1), some (.int x2)] [] (SH, s) r :=
  whl_link (P := fun (v : (Int32 × Int32)) => Rn N xs (d + 0) me318 4 [some (.ref 88), some (.int v.1), some (.int v.2)] [] (SH, s) r) (C := (C_X12_hooksWithKeys_4 N xs s d r (fun τ => r = (some (.int τ), (SH, s))))) (fun v τ h1 h2 => k_X12_hooksWithKeys_B4 d h1 h2) (fun _ h => h) (fun _ h => h) _ _ hJ hC
def F_X12_hooksWithKeys (s : mG) : Option (Int32) :=
  F_X12_hooksWithKeys_L4 s (ci 0) (ci 0)
set_option maxRecDepth 4000 in
theorem k_X12_hooksWithKeys_r {N : Nat} {xs : Nat → Int32} (d : Nat) {r : Option Value × mH} {s : mG} {τ : (Int32)} (hJ : F_X12_hooksWithKeys s = some τ) (hC : (fun τ => r = (some (.int τ), (SH, s))) τ) : Rn N xs (d + 0) me318 0 [some (.ref 88), none, none] [] (SH, s) r := by
  unfold F_X12_hooksWithKeys at hJ
  refine Rn_sq srt318 0 4 (pc' := 4) (ls' := [some (.ref 88), some (.int (ci 0)), some (.int (ci 0))]) (st' := []) (h1 := (SH, s)) rfl ?_
  exact (k_X12_hooksWithKeys_L4 d hJ hC)
theorem k_X12_hooksWithKeys {N : Nat} {xs : Nat → Int32} (d : Nat) {s : mG} {τ : (Int32)} (hJ : F_X12_hooksWithKeys s = some τ) : Rn N xs (d + 0) me318 0 [some (.ref 88), none, none] [] (SH, s) (some (.int τ), (SH, s)) := k_X12_hooksWithKeys_r d hJ rfl
/-! IsHeInModel.look(I)I -/
theorem srt319 : m_srt mc319 = true := by decide +kernel
def F_X12_look (s : mG) (a1 : Int32) : Option (Int32) :=
  if a1 = ci 0 then
    some (s.1 89 112)
  else
  if a1 = ci 1 then
    some (s.1 89 0)
  else
  if a1 = ci 2 then
    b1 (F_X12_outs s) fun v5 =>
    some v5
  else
  if a1 = ci 3 then
    b1 (F_X12_hooksWithKeys s) fun v8 =>
    some v8
  else
  if a1 = ci 4 then
    some (s.1 89 113)
  else
  if a1 = ci 5 then
    some (s.1 89 114)
  else
  if a1 = ci 6 then
    some (s.1 89 2)
  else
  if a1 = ci 7 then
    some (s.1 89 1)
  else
  if a1 = ci 8 then
    some (s.1 89 117)
  else
  if a1 = ci 9 then
    some (s.1 89 115)
  else
  if a1 = ci 10 then
    some (s.1 89 116)
  else
  if a1 = ci 11 then
    some (s.1 89 118)
  else
  if a1 = ci 12 then
    some (s.1 88 3)
  else
  if a1 = ci 13 then
    some (s.1 89 1049)
  else
  some (ci (-1))
set_option maxRecDepth 4000 in
theorem k_X12_look_r {N : Nat} {xs : Nat → Int32} (d : Nat) {r : Option Value × mH} {s : mG} {a1 : Int32} {τ : (Int32)} (hJ : F_X12_look s a1 = some τ) (hC : (fun τ => r = (some (.int τ), (SH, s))) τ) : Rn N xs (d + 1) me319 0 [some (.ref 88), some (.int a1)] [] (SH, s) r := by
  unfold F_X12_look at hJ
  refine Rn_sq srt319 0 1 (pc' := 1) (ls' := [some (.ref 88), some (.int a1)]) (st' := [(.int a1)]) (h1 := (SH, s)) rfl ?_
  by_cases h1 : a1 = ci 0
  · replace hJ := m_ifp h1 hJ
    refine Rn_ev srt319 1 rfl rfl rfl (op_sw h1 (show _ = some (72, _) from rfl)) ?_
    refine Rn_sq srt319 2 3 (pc' := 78) (ls' := [some (.ref 88), some (.int a1)]) (st' := [(.int (c8 112)), (.ref 89)]) (h1 := (SH, s)) rfl ?_
    refine Rn_ev srt319 5 rfl rfl rfl (op_ia sh89 (by decide) (k := 112) rfl) ?_
    rw [← Option.some.inj hJ] at hC
    have hC : r = (some (.int (s.1 89 112)), (SH, s)) := hC
    subst hC
    exact Rn_ret srt319 6 rfl rfl rfl
  replace hJ := m_ifn h1 hJ
  by_cases h2 : a1 = ci 1
  · replace hJ := m_ifp h2 hJ
    refine Rn_ev srt319 1 rfl rfl rfl (op_sw h2 (show _ = some (80, _) from rfl)) ?_
    refine Rn_sq srt319 7 3 (pc' := 85) (ls' := [some (.ref 88), some (.int a1)]) (st' := [(.int (ci 0)), (.ref 89)]) (h1 := (SH, s)) rfl ?_
    refine Rn_ev srt319 10 rfl rfl rfl (op_ia sh89 (by decide) (k := 0) rfl) ?_
    rw [← Option.some.inj hJ] at hC
    have hC : r = (some (.int (s.1 89 0)), (SH, s)) := hC
    subst hC
    exact Rn_ret srt319 11 rfl rfl rfl
  replace hJ := m_ifn h2 hJ
  by_cases h3 : a1 = ci 2
  · replace hJ := m_ifp h3 hJ
    refine Rn_ev srt319 1 rfl rfl rfl (op_sw h3 (show _ = some (87, _) from rfl)) ?_
    refine Rn_sq srt319 12 1 (pc' := 88) (ls' := [some (.ref 88), some (.int a1)]) (st' := [(.ref 88)]) (h1 := (SH, s)) rfl ?_
    obtain ⟨v5, h4, hJ⟩ := m_b1 hJ
    refine Rn_call srt319 13 rfl rfl rfl ⟨Nat.le_of_ble_eq_true rfl, Nat.le_of_ble_eq_true rfl, rfl, Nat.le_of_ble_eq_true rfl⟩ (k_X12_outs (d) h4) (show Rn N xs (d + 1) me319 91 [some (.ref 88), some (.int a1)] [(.int v5)] (SH, s) r from ?_)
    rw [← Option.some.inj hJ] at hC
    have hC : r = (some (.int v5), (SH, s)) := hC
    subst hC
    exact Rn_ret srt319 14 rfl rfl rfl
  replace hJ := m_ifn h3 hJ
  by_cases h6 : a1 = ci 3
  · replace hJ := m_ifp h6 hJ
    refine Rn_ev srt319 1 rfl rfl rfl (op_sw h6 (show _ = some (92, _) from rfl)) ?_
    refine Rn_sq srt319 15 1 (pc' := 93) (ls' := [some (.ref 88), some (.int a1)]) (st' := [(.ref 88)]) (h1 := (SH, s)) rfl ?_
    obtain ⟨v8, h7, hJ⟩ := m_b1 hJ
    refine Rn_call srt319 16 rfl rfl rfl ⟨Nat.le_of_ble_eq_true rfl, Nat.le_of_ble_eq_true rfl, rfl, Nat.le_of_ble_eq_true rfl⟩ (k_X12_hooksWithKeys (d) h7) (show Rn N xs (d + 1) me319 96 [some (.ref 88), some (.int a1)] [(.int v8)] (SH, s) r from ?_)
    rw [← Option.some.inj hJ] at hC
    have hC : r = (some (.int v8), (SH, s)) := hC
    subst hC
    exact Rn_ret srt319 17 rfl rfl rfl
  replace hJ := m_ifn h6 hJ
  by_cases h9 : a1 = ci 4
  · replace hJ := m_ifp h9 hJ
    refine Rn_ev srt319 1 rfl rfl rfl (op_sw h9 (show _ = some (97, _) from rfl)) ?_
    refine Rn_sq srt319 18 3 (pc' := 103) (ls' := [some (.ref 88), some (.int a1)]) (st' := [(.int (c8 113)), (.ref 89)]) (h1 := (SH, s)) rfl ?_
    refine Rn_ev srt319 21 rfl rfl rfl (op_ia sh89 (by decide) (k := 113) rfl) ?_
    rw [← Option.some.inj hJ] at hC
    have hC : r = (some (.int (s.1 89 113)), (SH, s)) := hC
    subst hC
    exact Rn_ret srt319 22 rfl rfl rfl
  replace hJ := m_ifn h9 hJ
  by_cases h10 : a1 = ci 5
  · replace hJ := m_ifp h10 hJ
    refine Rn_ev srt319 1 rfl rfl rfl (op_sw h10 (show _ = some (105, _) from rfl)) ?_
    refine Rn_sq srt319 23 3 (pc' := 111) (ls' := [some (.ref 88), some (.int a1)]) (st' := [(.int (c8 114)), (.ref 89)]) (h1 := (SH, s)) rfl ?_
    refine Rn_ev srt319 26 rfl rfl rfl (op_ia sh89 (by decide) (k := 114) rfl) ?_
    rw [← Option.some.inj hJ] at hC
    have hC : r = (some (.int (s.1 89 114)), (SH, s)) := hC
    subst hC
    exact Rn_ret srt319 27 rfl rfl rfl
  replace hJ := m_ifn h10 hJ
  by_cases h11 : a1 = ci 6
  · replace hJ := m_ifp h11 hJ
    refine Rn_ev srt319 1 rfl rfl rfl (op_sw h11 (show _ = some (113, _) from rfl)) ?_
    refine Rn_sq srt319 28 3 (pc' := 118) (ls' := [some (.ref 88), some (.int a1)]) (st' := [(.int (ci 2)), (.ref 89)]) (h1 := (SH, s)) rfl ?_
    refine Rn_ev srt319 31 rfl rfl rfl (op_ia sh89 (by decide) (k := 2) rfl) ?_
    rw [← Option.some.inj hJ] at hC
    have hC : r = (some (.int (s.1 89 2)), (SH, s)) := hC
    subst hC
    exact Rn_ret srt319 32 rfl rfl rfl
  replace hJ := m_ifn h11 hJ
  by_cases h12 : a1 = ci 7
  · replace hJ := m_ifp h12 hJ
    refine Rn_ev srt319 1 rfl rfl rfl (op_sw h12 (show _ = some (120, _) from rfl)) ?_
    refine Rn_sq srt319 33 3 (pc' := 125) (ls' := [some (.ref 88), some (.int a1)]) (st' := [(.int (ci 1)), (.ref 89)]) (h1 := (SH, s)) rfl ?_
    refine Rn_ev srt319 36 rfl rfl rfl (op_ia sh89 (by decide) (k := 1) rfl) ?_
    rw [← Option.some.inj hJ] at hC
    have hC : r = (some (.int (s.1 89 1)), (SH, s)) := hC
    subst hC
    exact Rn_ret srt319 37 rfl rfl rfl
  replace hJ := m_ifn h12 hJ
  by_cases h13 : a1 = ci 8
  · replace hJ := m_ifp h13 hJ
    refine Rn_ev srt319 1 rfl rfl rfl (op_sw h13 (show _ = some (127, _) from rfl)) ?_
    refine Rn_sq srt319 38 3 (pc' := 133) (ls' := [some (.ref 88), some (.int a1)]) (st' := [(.int (c8 117)), (.ref 89)]) (h1 := (SH, s)) rfl ?_
    refine Rn_ev srt319 41 rfl rfl rfl (op_ia sh89 (by decide) (k := 117) rfl) ?_
    rw [← Option.some.inj hJ] at hC
    have hC : r = (some (.int (s.1 89 117)), (SH, s)) := hC
    subst hC
    exact Rn_ret srt319 42 rfl rfl rfl
  replace hJ := m_ifn h13 hJ
  by_cases h14 : a1 = ci 9
  · replace hJ := m_ifp h14 hJ
    refine Rn_ev srt319 1 rfl rfl rfl (op_sw h14 (show _ = some (135, _) from rfl)) ?_
    refine Rn_sq srt319 43 3 (pc' := 141) (ls' := [some (.ref 88), some (.int a1)]) (st' := [(.int (c8 115)), (.ref 89)]) (h1 := (SH, s)) rfl ?_
    refine Rn_ev srt319 46 rfl rfl rfl (op_ia sh89 (by decide) (k := 115) rfl) ?_
    rw [← Option.some.inj hJ] at hC
    have hC : r = (some (.int (s.1 89 115)), (SH, s)) := hC
    subst hC
    exact Rn_ret srt319 47 rfl rfl rfl
  replace hJ := m_ifn h14 hJ
  by_cases h15 : a1 = ci 10
  · replace hJ := m_ifp h15 hJ
    refine Rn_ev srt319 1 rfl rfl rfl (op_sw h15 (show _ = some (143, _) from rfl)) ?_
    refine Rn_sq srt319 48 3 (pc' := 149) (ls' := [some (.ref 88), some (.int a1)]) (st' := [(.int (c8 116)), (.ref 89)]) (h1 := (SH, s)) rfl ?_
    refine Rn_ev srt319 51 rfl rfl rfl (op_ia sh89 (by decide) (k := 116) rfl) ?_
    rw [← Option.some.inj hJ] at hC
    have hC : r = (some (.int (s.1 89 116)), (SH, s)) := hC
    subst hC
    exact Rn_ret srt319 52 rfl rfl rfl
  replace hJ := m_ifn h15 hJ
  by_cases h16 : a1 = ci 11
  · replace hJ := m_ifp h16 hJ
    refine Rn_ev srt319 1 rfl rfl rfl (op_sw h16 (show _ = some (151, _) from rfl)) ?_
    refine Rn_sq srt319 53 3 (pc' := 157) (ls' := [some (.ref 88), some (.int a1)]) (st' := [(.int (c8 118)), (.ref 89)]) (h1 := (SH, s)) rfl ?_
    refine Rn_ev srt319 56 rfl rfl rfl (op_ia sh89 (by decide) (k := 118) rfl) ?_
    rw [← Option.some.inj hJ] at hC
    have hC : r = (some (.int (s.1 89 118)), (SH, s)) := hC
    subst hC
    exact Rn_ret srt319 57 rfl rfl rfl
  replace hJ := m_ifn h16 hJ
  by_cases h17 : a1 = ci 12
  · replace hJ := m_ifp h17 hJ
    refine Rn_ev srt319 1 rfl rfl rfl (op_sw h17 (show _ = some (159, _) from rfl)) ?_
    refine Rn_sq srt319 58 2 (pc' := 163) (ls' := [some (.ref 88), some (.int a1)]) (st' := [(.int (s.1 88 3))]) (h1 := (SH, s)) rfl ?_
    rw [← Option.some.inj hJ] at hC
    have hC : r = (some (.int (s.1 88 3)), (SH, s)) := hC
    subst hC
    exact Rn_ret srt319 60 rfl rfl rfl
  replace hJ := m_ifn h17 hJ
  by_cases h18 : a1 = ci 13
  · replace hJ := m_ifp h18 hJ
    refine Rn_ev srt319 1 rfl rfl rfl (op_sw h18 (show _ = some (164, _) from rfl)) ?_
    refine Rn_sq srt319 61 3 (pc' := 171) (ls' := [some (.ref 88), some (.int a1)]) (st' := [(.int (c16 1049)), (.ref 89)]) (h1 := (SH, s)) rfl ?_
    refine Rn_ev srt319 64 rfl rfl rfl (op_ia sh89 (by decide) (k := 1049) rfl) ?_
    rw [← Option.some.inj hJ] at hC
    have hC : r = (some (.int (s.1 89 1049)), (SH, s)) := hC
    subst hC
    exact Rn_ret srt319 65 rfl rfl rfl
  replace hJ := m_ifn h18 hJ
  refine Rn_ev srt319 1 rfl rfl rfl (op_swd (tg := 173) (sw_out (by decide) (by decide) (by intro v hv1 hv2; rcases (show v = 0 ∨ v = 1 ∨ v = 2 ∨ v = 3 ∨ v = 4 ∨ v = 5 ∨ v = 6 ∨ v = 7 ∨ v = 8 ∨ v = 9 ∨ v = 10 ∨ v = 11 ∨ v = 12 ∨ v = 13 by omega) with rfl | rfl | rfl | rfl | rfl | rfl | rfl | rfl | rfl | rfl | rfl | rfl | rfl | rfl <;> assumption)) rfl) ?_
  refine Rn_sq srt319 66 1 (pc' := 174) (ls' := [some (.ref 88), some (.int a1)]) (st' := [(.int (ci (-1)))]) (h1 := (SH, s)) rfl ?_
  rw [← Option.some.inj hJ] at hC
  have hC : r = (some (.int (ci (-1))), (SH, s)) := hC
  subst hC
  exact Rn_ret srt319 67 rfl rfl rfl
theorem k_X12_look {N : Nat} {xs : Nat → Int32} (d : Nat) {s : mG} {a1 : Int32} {τ : (Int32)} (hJ : F_X12_look s a1 = some τ) : Rn N xs (d + 1) me319 0 [some (.ref 88), some (.int a1)] [] (SH, s) (some (.int τ), (SH, s)) := k_X12_look_r d hJ rfl
end
