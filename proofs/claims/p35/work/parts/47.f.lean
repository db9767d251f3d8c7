noncomputable section
/-! IsHeInModel.room(IIII)I -/
theorem srt289 : m_srt mc289 = true := by decide +kernel
def F_X12_room_67 (s : mG) : Option (Int32 × mG) :=
  some ((ci (-1)), s)
set_option maxRecDepth 4000 in
theorem k_X12_room_67 {N : Nat} {xs : Nat → Int32} (d : Nat) {r : Option Value × mH} {s : mG} {τ : (Int32 × mG)} (hJ : F_X12_room_67 s = some τ) (hC : (fun τ => r = (some (.int τ.1), (SH, τ.2))) τ) : Rn N xs (d + 2) me289 67 [none, none, none, none, none, none] [] (SH, s) r := by
  unfold F_X12_room_67 at hJ
  refine Rn_sq srt289 35 1 (pc' := 68) (ls' := [none, none, none, none, none, none]) (st' := [(.int (ci (-1)))]) (h1 := (SH, s)) rfl ?_
  rw [← Option.some.inj hJ] at hC
  have hC : r = (some (.int (ci (-1))), (SH, s)) := hC
  subst hC
  exact Rn_ret srt289 36 rfl rfl rfl
def F_X12_room (a1 : Int32) (a2 : Int32) (a3 : Int32) (a4 : Int32) (s : mG) : Option (Int32 × mG) :=
  if a1 = (ci (-1)) then
    let s2 : mG := (mu s.1 89 118 (ci 0), s.2)
    some ((ci 0), s2)
  else
    b1 (F_X12_isGuest s a1) fun v4 =>
    if v4 = 0 then
      F_X12_room_67 s
    else
      b1 (F_X12_isIn s a2 (ci 1) (c8 99)) fun v7 =>
      if v7 = 0 then
        F_X12_room_67 s
      else
        b1 (F_X12_isIn s a3 (ci 1) (c16 999)) fun v10 =>
        if v10 = 0 then
          F_X12_room_67 s
        else
          b1 (F_X12_isIn s a4 (ci 0) (c8 99)) fun v13 =>
          if v13 = 0 then
            F_X12_room_67 s
          else
            if (s.1 89 118) = (c8 8) then
              F_X12_room_67 s
            else
              let v16 : Int32 := ((c16 203) + ((ci 4) * (s.1 89 118)))
              if (v16 + (ci 0)) < 0 ∨ 1894 ≤ (v16 + (ci 0)).toNatClampNeg then none else
              let s18 : mG := (mu s.1 89 (v16 + (ci 0)).toNatClampNeg a1, s.2)
              if (v16 + (ci 1)) < 0 ∨ 1894 ≤ (v16 + (ci 1)).toNatClampNeg then none else
              let s20 : mG := (mu s18.1 89 (v16 + (ci 1)).toNatClampNeg a2, s18.2)
              if (v16 + (ci 2)) < 0 ∨ 1894 ≤ (v16 + (ci 2)).toNatClampNeg then none else
              let s22 : mG := (mu s20.1 89 (v16 + (ci 2)).toNatClampNeg a3, s20.2)
              if (v16 + (ci 3)) < 0 ∨ 1894 ≤ (v16 + (ci 3)).toNatClampNeg then none else
              let s24 : mG := (mu s22.1 89 (v16 + (ci 3)).toNatClampNeg a4, s22.2)
              let s25 : mG := (mu s24.1 89 118 ((s24.1 89 118) + (ci 1)), s24.2)
              some ((s25.1 89 118), s25)
set_option maxRecDepth 4000 in
theorem k_X12_room_r {N : Nat} {xs : Nat → Int32} (d : Nat) {r : Option Value × mH} {s : mG} {a1 : Int32} {a2 : Int32} {a3 : Int32} {a4 : Int32} {τ : (Int32 × mG)} (hJ : F_X12_room a1 a2 a3 a4 s = some τ) (hC : (fun τ => r = (some (.int τ.1), (SH, τ.2))) τ) : Rn N xs (d + 2) me289 0 [some (.ref 88), some (.int a1), some (.int a2), some (.int a3), some (.int a4), none] [] (SH, s) r := by
  unfold F_X12_room at hJ
  refine Rn_sq srt289 0 3 (pc' := (if a1 = (ci (-1)) then 5 else 15)) (ls' := [some (.ref 88), some (.int a1), some (.int a2), some (.int a3), some (.int a4), none]) (st' := []) (h1 := (SH, s)) rfl (Rn_if (fun h1 => ?_) (fun h1 => ?_))
  · replace hJ := m_ifp h1 hJ
    refine Rn_sq srt289 3 4 (pc' := 12) (ls' := [some (.ref 88), some (.int a1), some (.int a2), some (.int a3), some (.int a4), none]) (st' := [(.int (ci 0)), (.int (c8 118)), (.ref 89)]) (h1 := (SH, s)) rfl ?_
    extract_lets +onlyGivenNames s2 at hJ
    refine Rn_ev srt289 7 rfl rfl rfl (op_ias sh89 (by decide) (k := 118) rfl) ?_
    refine Rn_sq srt289 8 1 (pc' := 14) (ls' := [some (.ref 88), some (.int a1), some (.int a2), some (.int a3), some (.int a4), none]) (st' := [(.int (ci 0))]) (h1 := (SH, s2)) rfl ?_
    rw [← Option.some.inj hJ] at hC
    have hC : r = (some (.int (ci 0)), (SH, s2)) := hC
    subst hC
    exact Rn_ret srt289 9 rfl rfl rfl
  · replace hJ := m_ifn h1 hJ
    refine Rn_sq srt289 10 2 (pc' := 17) (ls' := [some (.ref 88), some (.int a1), some (.int a2), some (.int a3), some (.int a4), none]) (st' := [(.int a1), (.ref 88)]) (h1 := (SH, s)) rfl ?_
    obtain ⟨v4, h3, hJ⟩ := m_b1 hJ
    refine Rn_call srt289 12 rfl rfl rfl ⟨Nat.le_of_ble_eq_true rfl, Nat.le_of_ble_eq_true rfl, rfl, Nat.le_of_ble_eq_true rfl⟩ (k_X12_isGuest (d) h3) (show Rn N xs (d + 2) me289 20 [some (.ref 88), some (.int a1), some (.int a2), some (.int a3), some (.int a4), none] [(.int v4)] (SH, s) r from ?_)
    refine Rn_sq srt289 13 1 (pc' := (if v4 = 0 then 67 else 23)) (ls' := [some (.ref 88), some (.int a1), some (.int a2), some (.int a3), some (.int a4), none]) (st' := []) (h1 := (SH, s)) rfl (Rn_if (fun h5 => ?_) (fun h5 => ?_))
    · replace hJ := m_ifp h5 hJ
      exact Rn_weaken (a := [none, none, none, none, none, none]) (b := [some (.ref 88), some (.int a1), some (.int a2), some (.int a3), some (.int a4), none]) trivial rfl (k_X12_room_67 d hJ hC)
    · replace hJ := m_ifn h5 hJ
      refine Rn_sq srt289 14 3 (pc' := 27) (ls' := [some (.ref 88), some (.int a1), some (.int a2), some (.int a3), some (.int a4), none]) (st' := [(.int (c8 99)), (.int (ci 1)), (.int a2)]) (h1 := (SH, s)) rfl ?_
      obtain ⟨v7, h6, hJ⟩ := m_b1 hJ
      refine Rn_call srt289 17 rfl rfl rfl ⟨Nat.le_of_ble_eq_true rfl, Nat.le_of_ble_eq_true rfl, rfl, Nat.le_of_ble_eq_true rfl⟩ (k_X12_isIn (d + 1) h6) (show Rn N xs (d + 2) me289 30 [some (.ref 88), some (.int a1), some (.int a2), some (.int a3), some (.int a4), none] [(.int v7)] (SH, s) r from ?_)
      refine Rn_sq srt289 18 1 (pc' := (if v7 = 0 then 67 else 33)) (ls' := [some (.ref 88), some (.int a1), some (.int a2), some (.int a3), some (.int a4), none]) (st' := []) (h1 := (SH, s)) rfl (Rn_if (fun h8 => ?_) (fun h8 => ?_))
      · replace hJ := m_ifp h8 hJ
        exact Rn_weaken (a := [none, none, none, none, none, none]) (b := [some (.ref 88), some (.int a1), some (.int a2), some (.int a3), some (.int a4), none]) trivial rfl (k_X12_room_67 d hJ hC)
      · replace hJ := m_ifn h8 hJ
        refine Rn_sq srt289 19 3 (pc' := 38) (ls' := [some (.ref 88), some (.int a1), some (.int a2), some (.int a3), some (.int a4), none]) (st' := [(.int (c16 999)), (.int (ci 1)), (.int a3)]) (h1 := (SH, s)) rfl ?_
        obtain ⟨v10, h9, hJ⟩ := m_b1 hJ
        refine Rn_call srt289 22 rfl rfl rfl ⟨Nat.le_of_ble_eq_true rfl, Nat.le_of_ble_eq_true rfl, rfl, Nat.le_of_ble_eq_true rfl⟩ (k_X12_isIn (d + 1) h9) (show Rn N xs (d + 2) me289 41 [some (.ref 88), some (.int a1), some (.int a2), some (.int a3), some (.int a4), none] [(.int v10)] (SH, s) r from ?_)
        refine Rn_sq srt289 23 1 (pc' := (if v10 = 0 then 67 else 44)) (ls' := [some (.ref 88), some (.int a1), some (.int a2), some (.int a3), some (.int a4), none]) (st' := []) (h1 := (SH, s)) rfl (Rn_if (fun h11 => ?_) (fun h11 => ?_))
        · replace hJ := m_ifp h11 hJ
          exact Rn_weaken (a := [none, none, none, none, none, none]) (b := [some (.ref 88), some (.int a1), some (.int a2), some (.int a3), some (.int a4), none]) trivial rfl (k_X12_room_67 d hJ hC)
        · replace hJ := m_ifn h11 hJ
          refine Rn_sq srt289 24 3 (pc' := 49) (ls' := [some (.ref 88), some (.int a1), some (.int a2), some (.int a3), some (.int a4), none]) (st' := [(.int (c8 99)), (.int (ci 0)), (.int a4)]) (h1 := (SH, s)) rfl ?_
          obtain ⟨v13, h12, hJ⟩ := m_b1 hJ
          refine Rn_call srt289 27 rfl rfl rfl ⟨Nat.le_of_ble_eq_true rfl, Nat.le_of_ble_eq_true rfl, rfl, Nat.le_of_ble_eq_true rfl⟩ (k_X12_isIn (d + 1) h12) (show Rn N xs (d + 2) me289 52 [some (.ref 88), some (.int a1), some (.int a2), some (.int a3), some (.int a4), none] [(.int v13)] (SH, s) r from ?_)
          refine Rn_sq srt289 28 1 (pc' := (if v13 = 0 then 67 else 55)) (ls' := [some (.ref 88), some (.int a1), some (.int a2), some (.int a3), some (.int a4), none]) (st' := []) (h1 := (SH, s)) rfl (Rn_if (fun h14 => ?_) (fun h14 => ?_))
          · replace hJ := m_ifp h14 hJ
            exact Rn_weaken (a := [none, none, none, none, none, none]) (b := [some (.ref 88), some (.int a1), some (.int a2), some (.int a3), some (.int a4), none]) trivial rfl (k_X12_room_67 d hJ hC)
          · replace hJ := m_ifn h14 hJ
            refine Rn_sq srt289 29 3 (pc' := 61) (ls' := [some (.ref 88), some (.int a1), some (.int a2), some (.int a3), some (.int a4), none]) (st' := [(.int (c8 118)), (.ref 89)]) (h1 := (SH, s)) rfl ?_
            refine Rn_ev srt289 32 rfl rfl rfl (op_ia sh89 (by decide) (k := 118) rfl) ?_
            refine Rn_sq srt289 33 2 (pc' := (if (s.1 89 118) = (c8 8) then 67 else 69)) (ls' := [some (.ref 88), some (.int a1), some (.int a2), some (.int a3), some (.int a4), none]) (st' := []) (h1 := (SH, s)) rfl (Rn_if (fun h15 => ?_) (fun h15 => ?_))
            · replace hJ := m_ifp h15 hJ
              exact Rn_weaken (a := [none, none, none, none, none, none]) (b := [some (.ref 88), some (.int a1), some (.int a2), some (.int a3), some (.int a4), none]) trivial rfl (k_X12_room_67 d hJ hC)
            · replace hJ := m_ifn h15 hJ
              refine Rn_sq srt289 37 5 (pc' := 79) (ls' := [some (.ref 88), some (.int a1), some (.int a2), some (.int a3), some (.int a4), none]) (st' := [(.int (c8 118)), (.ref 89), (.int (ci 4)), (.int (c16 203))]) (h1 := (SH, s)) rfl ?_
              refine Rn_ev srt289 42 rfl rfl rfl (op_ia sh89 (by decide) (k := 118) rfl) ?_
              extract_lets +onlyGivenNames v16 at hJ
              refine Rn_sq srt289 43 9 (pc' := 93) (ls' := [some (.ref 88), some (.int a1), some (.int a2), some (.int a3), some (.int a4), some (.int v16)]) (st' := [(.int a1), (.int (v16 + (ci 0))), (.ref 89)]) (h1 := (SH, s)) rfl ?_
              obtain ⟨h17, hJ⟩ := m_gn hJ
              extract_lets +onlyGivenNames s18 at hJ
              refine Rn_ev srt289 52 rfl rfl rfl (op_ias sh89 h17 (k := (v16 + (ci 0)).toNatClampNeg) rfl) ?_
              refine Rn_sq srt289 53 6 (pc' := 103) (ls' := [some (.ref 88), some (.int a1), some (.int a2), some (.int a3), some (.int a4), some (.int v16)]) (st' := [(.int a2), (.int (v16 + (ci 1))), (.ref 89)]) (h1 := (SH, s18)) rfl ?_
              obtain ⟨h19, hJ⟩ := m_gn hJ
              extract_lets +onlyGivenNames s20 at hJ
              refine Rn_ev srt289 59 rfl rfl rfl (op_ias sh89 h19 (k := (v16 + (ci 1)).toNatClampNeg) rfl) ?_
              refine Rn_sq srt289 60 6 (pc' := 113) (ls' := [some (.ref 88), some (.int a1), some (.int a2), some (.int a3), some (.int a4), some (.int v16)]) (st' := [(.int a3), (.int (v16 + (ci 2))), (.ref 89)]) (h1 := (SH, s20)) rfl ?_
              obtain ⟨h21, hJ⟩ := m_gn hJ
              extract_lets +onlyGivenNames s22 at hJ
              refine Rn_ev srt289 66 rfl rfl rfl (op_ias sh89 h21 (k := (v16 + (ci 2)).toNatClampNeg) rfl) ?_
              refine Rn_sq srt289 67 6 (pc' := 124) (ls' := [some (.ref 88), some (.int a1), some (.int a2), some (.int a3), some (.int a4), some (.int v16)]) (st' := [(.int a4), (.int (v16 + (ci 3))), (.ref 89)]) (h1 := (SH, s22)) rfl ?_
              obtain ⟨h23, hJ⟩ := m_gn hJ
              extract_lets +onlyGivenNames s24 at hJ
              refine Rn_ev srt289 73 rfl rfl rfl (op_ias sh89 h23 (k := (v16 + (ci 3)).toNatClampNeg) rfl) ?_
              refine Rn_sq srt289 74 4 (pc' := 132) (ls' := [some (.ref 88), some (.int a1), some (.int a2), some (.int a3), some (.int a4), some (.int v16)]) (st' := [(.int (c8 118)), (.ref 89), (.int (c8 118)), (.ref 89)]) (h1 := (SH, s24)) rfl ?_
              refine Rn_ev srt289 78 rfl rfl rfl (op_ia sh89 (by decide) (k := 118) rfl) ?_
              refine Rn_sq srt289 79 2 (pc' := 135) (ls' := [some (.ref 88), some (.int a1), some (.int a2), some (.int a3), some (.int a4), some (.int v16)]) (st' := [(.int ((s24.1 89 118) + (ci 1))), (.int (c8 118)), (.ref 89)]) (h1 := (SH, s24)) rfl ?_
              extract_lets +onlyGivenNames s25 at hJ
              refine Rn_ev srt289 81 rfl rfl rfl (op_ias sh89 (by decide) (k := 118) rfl) ?_
              refine Rn_sq srt289 82 3 (pc' := 142) (ls' := [some (.ref 88), some (.int a1), some (.int a2), some (.int a3), some (.int a4), some (.int v16)]) (st' := [(.int (c8 118)), (.ref 89)]) (h1 := (SH, s25)) rfl ?_
              refine Rn_ev srt289 85 rfl rfl rfl (op_ia sh89 (by decide) (k := 118) rfl) ?_
              rw [← Option.some.inj hJ] at hC
              have hC : r = (some (.int (s25.1 89 118)), (SH, s25)) := hC
              subst hC
              exact Rn_ret srt289 86 rfl rfl rfl
theorem k_X12_room {N : Nat} {xs : Nat → Int32} (d : Nat) {s : mG} {a1 : Int32} {a2 : Int32} {a3 : Int32} {a4 : Int32} {τ : (Int32 × mG)} (hJ : F_X12_room a1 a2 a3 a4 s = some τ) : Rn N xs (d + 2) me289 0 [some (.ref 88), some (.int a1), some (.int a2), some (.int a3), some (.int a4), none] [] (SH, s) (some (.int τ.1), (SH, τ.2)) := k_X12_room_r d hJ rfl
/-! IsHeInModel.canDo(I)Z -/
theorem srt291 : m_srt mc291 = true := by decide +kernel
def C_X12_canDo_2 (N : Nat) (xs : Nat → Int32) (s : mG) (d : Nat) (r : Option Value × mH) (C : (Int32) → Prop) : ((Int32 × Int32) ⊕ (Int32)) → Prop
  | .inl v => Rn N xs (d + 1) me291 2 [some (.ref 88), some (.int v.1), some (.int v.2), none, none] [] (SH, s) r
  | .inr a => C a
def F_X12_canDo_99 (s : mG) (x1 : Int32) (x2 : Int32) : Option ((Int32 × Int32) ⊕ (Int32)) :=
  some (Sum.inl (x1, (x2 + ci 1)))
set_option maxRecDepth 4000 in
theorem k_X12_canDo_99 {N : Nat} {xs : Nat → Int32} (d : Nat) {r : Option Value × mH} {s : mG} {x1 : Int32} {x2 : Int32} {τ : ((Int32 × Int32) ⊕ (Int32))} (hJ : F_X12_canDo_99 s x1 x2 = some τ) (hC : (C_X12_canDo_2 N xs s d r (fun τ => r = (some (.int τ), (SH, s)))) τ) : Rn N xs (d + 1) me291 99 [some (.ref 88), some (.int x1), some (.int x2), none, none] [] (SH, s) r := by
  unfold F_X12_canDo_99 at hJ
  refine Rn_sq srt291 60 2 (pc' := 2) (ls' := [some (.ref 88), some (.int x1), some (.int (x2 + ci 1)), none, none]) (st' := []) (h1 := (SH, s)) rfl ?_
  rw [← Option.some.inj hJ] at hC
  exact hC
def C_X12_canDo_29 (N : Nat) (xs : Nat → Int32) (s : mG) (d : Nat) (r : Option Value × mH) (C : ((Int32 × Int32) ⊕ (Int32)) → Prop) : ((Int32 × Int32 × Int32 × Int32) ⊕ ((Int32 × Int32) ⊕ (Int32))) → Prop
  | .inl v => Rn N xs (d + 1) me291 29 [some (.ref 88), some (.int v.1), some (.int v.2.1), some (.int v.2.2.1), some (.int v.2.2.2)] [] (SH, s) r
  | .inr a => C a
def F_X12_canDo_79 (s : mG) (x1 : Int32) (x2 : Int32) (x4 : Int32) (y0 : Int32) (y1 : Int32) : Option ((Int32 × Int32 × Int32 × Int32) ⊕ ((Int32 × Int32) ⊕ (Int32))) :=
  some (Sum.inl (x1, x2, (y0 + y1), (x4 + ci 1)))
set_option maxRecDepth 4000 in
theorem k_X12_canDo_79 {N : Nat} {xs : Nat → Int32} (d : Nat) {r : Option Value × mH} {s : mG} {x1 : Int32} {x2 : Int32} {x4 : Int32} {y0 : Int32} {y1 : Int32} {τ : ((Int32 × Int32 × Int32 × Int32) ⊕ ((Int32 × Int32) ⊕ (Int32)))} (hJ : F_X12_canDo_79 s x1 x2 x4 y0 y1 = some τ) (hC : (C_X12_canDo_29 N xs s d r (C_X12_canDo_2 N xs s d r (fun τ => r = (some (.int τ), (SH, s))))) τ) : Rn N xs (d + 1) me291 79 [some (.ref 88), some (.int x1), some (.int x2), none, some (.int x4)] [(.int y1), (.int y0)] (SH, s) r := by
  unfold F_X12_canDo_79 at hJ
  refine Rn_sq srt291 48 4 (pc' := 29) (ls' := [some (.ref 88), some (.int x1), some (.int x2), some (.int (y0 + y1)), some (.int (x4 + ci 1))]) (st' := []) (h1 := (SH, s)) rfl ?_
  rw [← Option.some.inj hJ] at hC
  exact hC
def F_X12_canDo_78 (s : mG) (x1 : Int32) (x2 : Int32) (x4 : Int32) (y0 : Int32) : Option ((Int32 × Int32 × Int32 × Int32) ⊕ ((Int32 × Int32) ⊕ (Int32))) :=
  F_X12_canDo_79 s x1 x2 x4 y0 (ci 0)
set_option maxRecDepth 4000 in
theorem k_X12_canDo_78 {N : Nat} {xs : Nat → Int32} (d : Nat) {r : Option Value × mH} {s : mG} {x1 : Int32} {x2 : Int32} {x4 : Int32} {y0 : Int32} {τ : ((Int32 × Int32 × Int32 × Int32) ⊕ ((Int32 × Int32) ⊕ (Int32)))} (hJ : F_X12_canDo_78 s x1 x2 x4 y0 = some τ) (hC : (C_X12_canDo_29 N xs s d r (C_X12_canDo_2 N xs s d r (fun τ => r = (some (.int τ), (SH, s))))) τ) : Rn N xs (d + 1) me291 78 [some (.ref 88), some (.int x1), some (.int x2), none, some (.int x4)] [(.int y0)] (SH, s) r := by
  unfold F_X12_canDo_78 at hJ
  refine Rn_sq srt291 47 1 (pc' := 79) (ls' := [some (.ref 88), some (.int x1), some (.int x2), none, some (.int x4)]) (st' := [(.int (ci 0)), (.int y0)]) (h1 := (SH, s)) rfl ?_
  exact (k_X12_canDo_79 d hJ hC)
def F_X12_canDo_B29 (s : mG) (x1 : Int32) (x2 : Int32) (x3 : Int32) (x4 : Int32) : Option ((Int32 × Int32 × Int32 × Int32) ⊕ ((Int32 × Int32) ⊕ (Int32))) :=
  if (s.1 89 118) ≤ x4 then
    b1 (F_X12_ofRoom s x2 (ci 2)) fun v5 =>
    if x3 ≤ v5 then
      b1 (F_X12_canDo_99 s x1 x2) fun τ => some (Sum.inr τ)
    else
      some (Sum.inr (Sum.inr (ci 0)))
  else
    if ((x1 >>> (x4 &&& 31)) &&& (ci 1)) = (ci 1) then
      b1 (F_X12_ofRoom s x4 (ci 2)) fun v9 =>
      b1 (F_X12_ofRoom s x2 (ci 2)) fun v11 =>
      if v11 < v9 then
        F_X12_canDo_78 s x1 x2 x4 x3
      else
        b1 (F_X12_ofRoom s x4 (ci 1)) fun v14 =>
        F_X12_canDo_79 s x1 x2 x4 x3 v14
    else
      F_X12_canDo_78 s x1 x2 x4 x3
set_option maxRecDepth 4000 in
theorem k_X12_canDo_B29 {N : Nat} {xs : Nat → Int32} (d : Nat) {r : Option Value × mH} {s : mG} {x1 : Int32} {x2 : Int32} {x3 : Int32} {x4 : Int32} {τ : ((Int32 × Int32 × Int32 × Int32) ⊕ ((Int32 × Int32) ⊕ (Int32)))} (hJ : F_X12_canDo_B29 s x1 x2 x3 x4 = some τ) (hC : (C_X12_canDo_29 N xs s d r (C_X12_canDo_2 N xs s d r (fun τ => r = (some (.int τ), (SH, s))))) τ) : Rn N xs (d + 1) me291 29 [some (.ref 88), some (.int x1), some (.int x2), some (.int x3), some (.int x4)] [] (SH, s) r := by
  unfold F_X12_canDo_B29 at hJ
  refine Rn_sq srt291 19 4 (pc' := 37) (ls' := [some (.ref 88), some (.int x1), some (.int x2), some (.int x3), some (.int x4)]) (st' := [(.int (c8 118)), (.ref 89), (.int x4)]) (h1 := (SH, s)) rfl ?_
  refine Rn_ev srt291 23 rfl rfl rfl (op_ia sh89 (by decide) (k := 118) rfl) ?_
  refine Rn_sq srt291 24 1 (pc' := (if (s.1 89 118) ≤ x4 then 87 else 41)) (ls' := [some (.ref 88), some (.int x1), some (.int x2), some (.int x3), some (.int x4)]) (st' := []) (h1 := (SH, s)) rfl (Rn_if (fun h3 => ?_) (fun h3 => ?_))
  · replace hJ := m_ifp h3 hJ
    refine Rn_sq srt291 52 4 (pc' := 91) (ls' := [some (.ref 88), some (.int x1), some (.int x2), some (.int x3), some (.int x4)]) (st' := [(.int (ci 2)), (.int x2), (.ref 88), (.int x3)]) (h1 := (SH, s)) rfl ?_
    obtain ⟨v5, h4, hJ⟩ := m_b1 hJ
    refine Rn_call srt291 56 rfl rfl rfl ⟨Nat.le_of_ble_eq_true rfl, Nat.le_of_ble_eq_true rfl, rfl, Nat.le_of_ble_eq_true rfl⟩ (k_X12_ofRoom (d) h4) (show Rn N xs (d + 1) me291 94 [some (.ref 88), some (.int x1), some (.int x2), some (.int x3), some (.int x4)] [(.int v5), (.int x3)] (SH, s) r from ?_)
    refine Rn_sq srt291 57 1 (pc' := (if x3 ≤ v5 then 99 else 97)) (ls' := [some (.ref 88), some (.int x1), some (.int x2), some (.int x3), some (.int x4)]) (st' := []) (h1 := (SH, s)) rfl (Rn_if (fun h6 => ?_) (fun h6 => ?_))
    · replace hJ := m_ifp h6 hJ
      obtain ⟨τ1, hJ1, hJ⟩ := m_b1 hJ
      rw [← Option.some.inj hJ] at hC
      exact Rn_weaken (a := [some (.ref 88), some (.int x1), some (.int x2), none, none]) (b := [some (.ref 88), some (.int x1), some (.int x2), some (.int x3), some (.int x4)]) (And.intro rfl (And.intro rfl (And.intro rfl trivial))) rfl (k_X12_canDo_99 d hJ1 hC)
    · replace hJ := m_ifn h6 hJ
      refine Rn_sq srt291 58 1 (pc' := 98) (ls' := [some (.ref 88), some (.int x1), some (.int x2), some (.int x3), some (.int x4)]) (st' := [(.int (ci 0))]) (h1 := (SH, s)) rfl ?_
      rw [← Option.some.inj hJ] at hC
      have hC : r = (some (.int (ci 0)), (SH, s)) := hC
      subst hC
      exact Rn_ret srt291 59 rfl rfl (m_ret_b rfl (by decide))
  · replace hJ := m_ifn h3 hJ
    refine Rn_sq srt291 25 8 (pc' := (if ((x1 >>> (x4 &&& 31)) &&& (ci 1)) = (ci 1) then 52 else 78)) (ls' := [some (.ref 88), some (.int x1), some (.int x2), some (.int x3), some (.int x4)]) (st' := [(.int x3)]) (h1 := (SH, s)) rfl (Rn_if (fun h7 => ?_) (fun h7 => ?_))
    · replace hJ := m_ifp h7 hJ
      refine Rn_sq srt291 33 3 (pc' := 56) (ls' := [some (.ref 88), some (.int x1), some (.int x2), some (.int x3), some (.int x4)]) (st' := [(.int (ci 2)), (.int x4), (.ref 88), (.int x3)]) (h1 := (SH, s)) rfl ?_
      obtain ⟨v9, h8, hJ⟩ := m_b1 hJ
      refine Rn_call srt291 36 rfl rfl rfl ⟨Nat.le_of_ble_eq_true rfl, Nat.le_of_ble_eq_true rfl, rfl, Nat.le_of_ble_eq_true rfl⟩ (k_X12_ofRoom (d) h8) (show Rn N xs (d + 1) me291 59 [some (.ref 88), some (.int x1), some (.int x2), some (.int x3), some (.int x4)] [(.int v9), (.int x3)] (SH, s) r from ?_)
      refine Rn_sq srt291 37 3 (pc' := 62) (ls' := [some (.ref 88), some (.int x1), some (.int x2), some (.int x3), some (.int x4)]) (st' := [(.int (ci 2)), (.int x2), (.ref 88), (.int v9), (.int x3)]) (h1 := (SH, s)) rfl ?_
      obtain ⟨v11, h10, hJ⟩ := m_b1 hJ
      refine Rn_call srt291 40 rfl rfl rfl ⟨Nat.le_of_ble_eq_true rfl, Nat.le_of_ble_eq_true rfl, rfl, Nat.le_of_ble_eq_true rfl⟩ (k_X12_ofRoom (d) h10) (show Rn N xs (d + 1) me291 65 [some (.ref 88), some (.int x1), some (.int x2), some (.int x3), some (.int x4)] [(.int v11), (.int v9), (.int x3)] (SH, s) r from ?_)
      refine Rn_sq srt291 41 1 (pc' := (if v11 < v9 then 78 else 68)) (ls' := [some (.ref 88), some (.int x1), some (.int x2), some (.int x3), some (.int x4)]) (st' := [(.int x3)]) (h1 := (SH, s)) rfl (Rn_if (fun h12 => ?_) (fun h12 => ?_))
      · replace hJ := m_ifp h12 hJ
        exact Rn_weaken (a := [some (.ref 88), some (.int x1), some (.int x2), none, some (.int x4)]) (b := [some (.ref 88), some (.int x1), some (.int x2), some (.int x3), some (.int x4)]) (And.intro rfl (And.intro rfl (And.intro rfl (And.intro rfl trivial)))) rfl (k_X12_canDo_78 d hJ hC)
      · replace hJ := m_ifn h12 hJ
        refine Rn_sq srt291 42 3 (pc' := 72) (ls' := [some (.ref 88), some (.int x1), some (.int x2), some (.int x3), some (.int x4)]) (st' := [(.int (ci 1)), (.int x4), (.ref 88), (.int x3)]) (h1 := (SH, s)) rfl ?_
        obtain ⟨v14, h13, hJ⟩ := m_b1 hJ
        refine Rn_call srt291 45 rfl rfl rfl ⟨Nat.le_of_ble_eq_true rfl, Nat.le_of_ble_eq_true rfl, rfl, Nat.le_of_ble_eq_true rfl⟩ (k_X12_ofRoom (d) h13) (show Rn N xs (d + 1) me291 75 [some (.ref 88), some (.int x1), some (.int x2), some (.int x3), some (.int x4)] [(.int v14), (.int x3)] (SH, s) r from ?_)
        refine Rn_sq srt291 46 1 (pc' := 79) (ls' := [some (.ref 88), some (.int x1), some (.int x2), some (.int x3), some (.int x4)]) (st' := [(.int v14), (.int x3)]) (h1 := (SH, s)) rfl ?_
        exact Rn_weaken (a := [some (.ref 88), some (.int x1), some (.int x2), none, some (.int x4)]) (b := [some (.ref 88), some (.int x1), some (.int x2), some (.int x3), some (.int x4)]) (And.intro rfl (And.intro rfl (And.intro rfl (And.intro rfl trivial)))) rfl (k_X12_canDo_79 d hJ hC)
    · replace hJ := m_ifn h7 hJ
      exact Rn_weaken (a := [some (.ref 88), some (.int x1), some (.int x2), none, some (.int x4)]) (b := [some (.ref 88), some (.int x1), some (.int x2), some (.int x3), some (.int x4)]) (And.intro rfl (And.intro rfl (And.intro rfl (And.intro rfl trivial)))) rfl (k_X12_canDo_78 d hJ hC)
def F_X12_canDo_L29 (s : mG) (x1 : Int32) (x2 : Int32) (x3 : Int32) (x4 : Int32) : Option ((Int32 × Int32) ⊕ (Int32)) := whl (fun (v : (Int32 × Int32 × Int32 × Int32)) => F_X12_canDo_B29 s v.1 v.2.1 v.2.2.1 v.2.2.2) (x1, x2, x3, x4)
theorem k_X12_canDo_L29 {N : Nat} {xs : Nat → Int32} (d : Nat) {r : Option Value × mH} {s : mG} {x1 : Int32} {x2 : Int32} {x3 : Int32} {x4 : Int32} {τ : ((Int32 × Int32) ⊕ (Int32))} (hJ : F_X12_canDo_L29 s x1 x2 x3 x4 = some τ) (hC : (C_X12_canDo_2 N xs s d r (fun τ => r = (some (.int τ), (SH, s)))) τ) : Rn N xs (d + 1) me291 29 [some (.ref 88), some (.int x1), some (.int x2), some (.int x3), some (.int x4)] [] (SH, s) r :=
  whl_link (P := fun (v : (Int32 × Int32 × Int32 × Int32)) => Rn N xs (d + 1) me291 29 [some (.ref 88), some (.int v.1), some (.int v.2.1), some (.int v.2.2.1), some (.int v.2.2.2)] [] (SH, s) r) (C := (C_X12_canDo_29 N xs s d r (C_X12_canDo_2 N xs s d r (fun τ => r = (some (.int τ), (SH, s)))))) (fun v τ h1 h2 => k_X12_canDo_B29 d h1 h2) (fun _ h => h) (fun _ h => h) _ _ hJ hC
def F_X12_canDo_B2 (s : mG) (x1 : Int32) (x2 : Int32) : Option ((Int32 × Int32) ⊕ (Int32)) :=
  if (s.1 89 118) ≤ x2 then
    some (Sum.inr (ci 1))
  else
    if ((x1 >>> (x2 &&& 31)) &&& (ci 1)) = 0 then
      F_X12_canDo_99 s x1 x2
    else
      F_X12_canDo_L29 s x1 x2 (ci 0) (ci 0)
set_option maxRecDepth 4000 in
theorem k_X12_canDo_B2 {N : Nat} {xs : Nat → Int32} (d : Nat) {r : Option Value × mH} {s : mG} {x1 : Int32} {x2 : Int32} {τ : ((Int32 × Int32) ⊕ (Int32))} (hJ : F_X12_canDo_B2 s x1 x2 = some τ) (hC : (C_X12_canDo_2 N xs s d r (fun τ => r = (some (.int τ), (SH, s)))) τ) : Rn N xs (d + 1) me291 2 [some (.ref 88), some (.int x1), some (.int x2), none, none] [] (SH, s) r := by
  unfold F_X12_canDo_B2 at hJ
  refine Rn_sq srt291 2 4 (pc' := 9) (ls' := [some (.ref 88), some (.int x1), some (.int x2), none, none]) (st' := [(.int (c8 118)), (.ref 89), (.int x2)]) (h1 := (SH, s)) rfl ?_
  refine Rn_ev srt291 6 rfl rfl rfl (op_ia sh89 (by decide) (k := 118) rfl) ?_
  refine Rn_sq srt291 7 1 (pc' := (if (s.1 89 118) ≤ x2 then 105 else 13)) (ls' := [some (.ref 88), some (.int x1), some (.int x2), none, none]) (st' := []) (h1 := (SH, s)) rfl (Rn_if (fun h1 => ?_) (fun h1 => ?_))
  · replace hJ := m_ifp h1 hJ
    refine Rn_sq srt291 62 1 (pc' := 106) (ls' := [some (.ref 88), some (.int x1), some (.int x2), none, none]) (st' := [(.int (ci 1))]) (h1 := (SH, s)) rfl ?_
    rw [← Option.some.inj hJ] at hC
    have hC : r = (some (.int (ci 1)), (SH, s)) := hC
    subst hC
    exact Rn_ret srt291 63 rfl rfl (m_ret_b rfl (by decide))
  · replace hJ := m_ifn h1 hJ
    refine Rn_sq srt291 8 6 (pc' := (if ((x1 >>> (x2 &&& 31)) &&& (ci 1)) = 0 then 21 else 24)) (ls' := [some (.ref 88), some (.int x1), some (.int x2), none, none]) (st' := []) (h1 := (SH, s)) rfl (Rn_if (fun h2 => ?_) (fun h2 => ?_))
    · replace hJ := m_ifp h2 hJ
      refine Rn_sq srt291 14 1 (pc' := 99) (ls' := [some (.ref 88), some (.int x1), some (.int x2), none, none]) (st' := []) (h1 := (SH, s)) rfl ?_
      exact (k_X12_canDo_99 d hJ hC)
    · replace hJ := m_ifn h2 hJ
      refine Rn_sq srt291 15 4 (pc' := 29) (ls' := [some (.ref 88), some (.int x1), some (.int x2), some (.int (ci 0)), some (.int (ci 0))]) (st' := []) (h1 := (SH, s)) rfl ?_
      exact (k_X12_canDo_L29 d hJ hC)
def F_X12_canDo_L2 (s : mG) (x1 : Int32) (x2 : Int32) : Option (Int32) := whl (fun (v : (Int32 × Int32)) => F_X12_canDo_B2 s v.1 v.2) (x1, x2)
theorem k_X12_canDo_L2 {N : Nat} {xs : Nat → Int32} (d : Nat) {r : Option Value × mH} {s : mG} {x1 : Int32} {x2 : Int32} {τ : (Int32)} (hJ : F_X12_canDo_L2 s x1 x2 = some τ) (hC : (fun τ => r = (some (.int τ), (SH, s))) τ) : Rn N xs (d + 1) me291 2 [some (.ref 88), some (.int x1), some (.int x2), none, none] [] (SH, s) r :=
  whl_link (P := fun (v : (Int32 × Int32)) => Rn N xs (d + 1) me291 2 [some (.ref 88), some (.int v.1), some (.int v.2), none, none] [] (SH, s) r) (C := (C_X12_canDo_2 N xs s d r (fun τ => r = (some (.int τ), (SH, s))))) (fun v τ h1 h2 => k_X12_canDo_B2 d h1 h2) (fun _ h => h) (fun _ h => h) _ _ hJ hC
def F_X12_canDo (s : mG) (a1 : Int32) : Option (Int32) :=
  F_X12_canDo_L2 s a1 (ci 0)
set_option maxRecDepth 4000 in
theorem k_X12_canDo_r {N : Nat} {xs : Nat → Int32} (d : Nat) {r : Option Value × mH} {s : mG} {a1 : Int32} {τ : (Int32)} (hJ : F_X12_canDo s a1 = some τ) (hC : (fun τ => r = (some (.int τ), (SH, s))) τ) : Rn N xs (d + 1) me291 0 [some (.ref 88), some (.int a1), none, none, none] [] (SH, s) r := by
  unfold F_X12_canDo at hJ
  refine Rn_sq srt291 0 2 (pc' := 2) (ls' := [some (.ref 88), some (.int a1), some (.int (ci 0)), none, none]) (st' := []) (h1 := (SH, s)) rfl ?_
  exact (k_X12_canDo_L2 d hJ hC)
theorem k_X12_canDo {N : Nat} {xs : Nat → Int32} (d : Nat) {s : mG} {a1 : Int32} {τ : (Int32)} (hJ : F_X12_canDo s a1 = some τ) : Rn N xs (d + 1) me291 0 [some (.ref 88), some (.int a1), none, none, none] [] (SH, s) (some (.int τ), (SH, s)) := k_X12_canDo_r d hJ rfl
/-! IsHeInModel.worthOfSet(I)I -/
theorem srt292 : m_srt mc292 = true := by decide +kernel
def C_X12_worthOfSet_4 (N : Nat) (xs : Nat → Int32) (s : mG) (d : Nat) (r : Option Value × mH) (C : (Int32) → Prop) : ((Int32 × Int32 × Int32) ⊕ (Int32)) → Prop
  | .inl v => Rn N xs (d + 1) me292 4 [some (.ref 88), some (.int v.1), some (.int v.2.1), some (.int v.2.2)] [] (SH, s) r
  | .inr a => C a
def F_X12_worthOfSet_35 (s : mG) (x1 : Int32) (x3 : Int32) (y0 : Int32) (y1 : Int32) : Option ((Int32 × Int32 × Int32) ⊕ (Int32)) :=
  some (Sum.inl (x1, (y0 + y1), (x3 + ci 1)))
set_option maxRecDepth 4000 in
theorem k_X12_worthOfSet_35 {N : Nat} {xs : Nat → Int32} (d : Nat) {r : Option Value × mH} {s : mG} {x1 : Int32} {x3 : Int32} {y0 : Int32} {y1 : Int32} {τ : ((Int32 × Int32 × Int32) ⊕ (Int32))} (hJ : F_X12_worthOfSet_35 s x1 x3 y0 y1 = some τ) (hC : (C_X12_worthOfSet_4 N xs s d r (fun τ => r = (some (.int τ), (SH, s)))) τ) : Rn N xs (d + 1) me292 35 [some (.ref 88), some (.int x1), none, some (.int x3)] [(.int y1), (.int y0)] (SH, s) r := by
  unfold F_X12_worthOfSet_35 at hJ
  refine Rn_sq srt292 24 4 (pc' := 4) (ls' := [some (.ref 88), some (.int x1), some (.int (y0 + y1)), some (.int (x3 + ci 1))]) (st' := []) (h1 := (SH, s)) rfl ?_
  rw [← Option.some.inj hJ] at hC
  exact hC
def F_X12_worthOfSet_B4 (s : mG) (x1 : Int32) (x2 : Int32) (x3 : Int32) : Option ((Int32 × Int32 × Int32) ⊕ (Int32)) :=
  if (s.1 89 118) ≤ x3 then
    some (Sum.inr x2)
  else
    if ((x1 >>> (x3 &&& 31)) &&& (ci 1)) = (ci 1) then
      b1 (F_X12_ofRoom s x3 (ci 3)) fun v4 =>
      F_X12_worthOfSet_35 s x1 x3 x2 v4
    else
      F_X12_worthOfSet_35 s x1 x3 x2 (ci 0)
set_option maxRecDepth 4000 in
theorem k_X12_worthOfSet_B4 {N : Nat} {xs : Nat → Int32} (d : Nat) {r : Option Value × mH} {s : mG} {x1 : Int32} {x2 : Int32} {x3 : Int32} {τ : ((Int32 × Int32 × Int32) ⊕ (Int32))} (hJ : F_X12_worthOfSet_B4 s x1 x2 x3 = some τ) (hC : (C_X12_worthOfSet_4 N xs s d r (fun τ => r = (some (.int τ), (SH, s)))) τ) : Rn N xs (d + 1) me292 4 [some (.ref 88), some (.int x1), some (.int x2), some (.int x3)] [] (SH, s) r := by
  unfold F_X12_worthOfSet_B4 at hJ
  refine Rn_sq srt292 4 4 (pc' := 11) (ls' := [some (.ref 88), some (.int x1), some (.int x2), some (.int x3)]) (st' := [(.int (c8 118)), (.ref 89), (.int x3)]) (h1 := (SH, s)) rfl ?_
  refine Rn_ev srt292 8 rfl rfl rfl (op_ia sh89 (by decide) (k := 118) rfl) ?_
  refine Rn_sq srt292 9 1 (pc' := (if (s.1 89 118) ≤ x3 then 43 else 15)) (ls' := [some (.ref 88), some (.int x1), some (.int x2), some (.int x3)]) (st' := []) (h1 := (SH, s)) rfl (Rn_if (fun h1 => ?_) (fun h1 => ?_))
  · replace hJ := m_ifp h1 hJ
    refine Rn_sq srt292 28 1 (pc' := 44) (ls' := [some (.ref 88), some (.int x1), some (.int x2), some (.int x3)]) (st' := [(.int x2)]) (h1 := (SH, s)) rfl ?_
    rw [← Option.some.inj hJ] at hC
    have hC : r = (some (.int x2), (SH, s)) := hC
    subst hC
    exact Rn_ret srt292 29 rfl rfl rfl
  · replace hJ := m_ifn h1 hJ
    refine Rn_sq srt292 10 8 (pc' := (if ((x1 >>> (x3 &&& 31)) &&& (ci 1)) = (ci 1) then 25 else 34)) (ls' := [some (.ref 88), some (.int x1), some (.int x2), some (.int x3)]) (st' := [(.int x2)]) (h1 := (SH, s)) rfl (Rn_if (fun h2 => ?_) (fun h2 => ?_))
    · replace hJ := m_ifp h2 hJ
      refine Rn_sq srt292 18 3 (pc' := 28) (ls' := [some (.ref 88), some (.int x1), some (.int x2), some (.int x3)]) (st' := [(.int (ci 3)), (.int x3), (.ref 88), (.int x2)]) (h1 := (SH, s)) rfl ?_
      obtain ⟨v4, h3, hJ⟩ := m_b1 hJ
      refine Rn_call srt292 21 rfl rfl rfl ⟨Nat.le_of_ble_eq_true rfl, Nat.le_of_ble_eq_true rfl, rfl, Nat.le_of_ble_eq_true rfl⟩ (k_X12_ofRoom (d) h3) (show Rn N xs (d + 1) me292 31 [some (.ref 88), some (.int x1), some (.int x2), some (.int x3)] [(.int v4), (.int x2)] (SH, s) r from ?_)
      refine Rn_sq srt292 22 1 (pc' := 35) (ls' := [some (.ref 88), some (.int x1), some (.int x2), some (.int x3)]) (st' := [(.int v4), (.int x2)]) (h1 := (SH, s)) rfl ?_
      exact Rn_weaken (a := [some (.ref 88), some (.int x1), none, some (.int x3)]) (b := [some (.ref 88), some (.int x1), some (.int x2), some (.int x3)]) (And.intro rfl (And.intro rfl (And.intro rfl trivial))) rfl (k_X12_worthOfSet_35 d hJ hC)
    · replace hJ := m_ifn h2 hJ
      refine Rn_sq srt292 23 1 (pc' := 35) (ls' := [some (.ref 88), some (.int x1), some (.int x2), some (.int x3)]) (st' := [(.int (ci 0)), (.int x2)]) (h1 := (SH, s)) rfl ?_
      exact Rn_weaken (a := [some (.ref 88), some (.int x1), none, some (.int x3)]) (b := [some (.ref 88), some (.int x1), some (.int x2), some (.int x3)]) (And.intro rfl (And.intro rfl (And.intro rfl trivial))) rfl (k_X12_worthOfSet_35 d hJ hC)
def F_X12_worthOfSet_L4 (s : mG) (x1 : Int32) (x2 : Int32) (x3 : Int32) : Option (Int32) := whl (fun (v : (Int32 × Int32 × Int32)) => F_X12_worthOfSet_B4 s v.1 v.2.1 v.2.2) (x1, x2, x3)
theorem k_X12_worthOfSet_L4 {N : Nat} {xs : Nat → Int32} (d : Nat) {r : Option Value × mH} {s : mG} {x1 : Int32} {x2 : Int32} {x3 : Int32} {τ : (Int32)} (hJ : F_X12_worthOfSet_L4 s x1 x2 x3 = some τ) (hC : (fun τ => r = (some (.int τ), (SH, s))) τ) : Rn N xs (d + 1) me292 4 [some (.ref 88), some (.int x1), some (.int x2), some (.int x3)] [] (SH, s) r :=
  whl_link (P := fun (v : (Int32 × Int32 × Int32)) => Rn N xs (d + 1) me292 4 [some (.ref 88), some (.int v.1), some (.int v.2.1), some (.int v.2.2)] [] (SH, s) r) (C := (C_X12_worthOfSet_4 N xs s d r (fun τ => r = (some (.int τ), (SH, s))))) (fun v τ h1 h2 => k_X12_worthOfSet_B4 d h1 h2) (fun _ h => h) (fun _ h => h) _ _ hJ hC
def F_X12_worthOfSet (s : mG) (a1 : Int32) : Option (Int32) :=
  F_X12_worthOfSet_L4 s a1 (ci 0) (ci 0)
set_option maxRecDepth 4000 in
theorem k_X12_worthOfSet_r {N : Nat} {xs : Nat → Int32} (d : Nat) {r : Option Value × mH} {s : mG} {a1 : Int32} {τ : (Int32)} (hJ : F_X12_worthOfSet s a1 = some τ) (hC : (fun τ => r = (some (.int τ), (SH, s))) τ) : Rn N xs (d + 1) me292 0 [some (.ref 88), some (.int a1), none, none] [] (SH, s) r := by
  unfold F_X12_worthOfSet at hJ
  refine Rn_sq srt292 0 4 (pc' := 4) (ls' := [some (.ref 88), some (.int a1), some (.int (ci 0)), some (.int (ci 0))]) (st' := []) (h1 := (SH, s)) rfl ?_
  exact (k_X12_worthOfSet_L4 d hJ hC)
theorem k_X12_worthOfSet {N : Nat} {xs : Nat → Int32} (d : Nat) {s : mG} {a1 : Int32} {τ : (Int32)} (hJ : F_X12_worthOfSet s a1 = some τ) : Rn N xs (d + 1) me292 0 [some (.ref 88), some (.int a1), none, none] [] (SH, s) (some (.int τ), (SH, s)) := k_X12_worthOfSet_r d hJ rfl
/-! IsHeInModel.count(I)I -/
theorem srt293 : m_srt mc293 = true := by decide +kernel
def C_X12_count_4 (N : Nat) (xs : Nat → Int32) (s : mG) (d : Nat) (r : Option Value × mH) (C : (Int32) → Prop) : ((Int32 × Int32 × Int32) ⊕ (Int32)) → Prop
  | .inl v => Rn N xs (d + 0) me293 4 [some (.int v.1), some (.int v.2.1), some (.int v.2.2)] [] (SH, s) r
  | .inr a => C a
def F_X12_count_B4 (s : mG) (x0 : Int32) (x1 : Int32) (x2 : Int32) : Option ((Int32 × Int32 × Int32) ⊕ (Int32)) :=
  if (c8 12) ≤ x2 then
    some (Sum.inr x1)
  else
    let v2 : Int32 := (x1 + ((x0 >>> (x2 &&& 31)) &&& (ci 1)))
    some (Sum.inl (x0, v2, (x2 + ci 1)))
set_option maxRecDepth 4000 in
theorem k_X12_count_B4 {N : Nat} {xs : Nat → Int32} (d : Nat) {r : Option Value × mH} {s : mG} {x0 : Int32} {x1 : Int32} {x2 : Int32} {τ : ((Int32 × Int32 × Int32) ⊕ (Int32))} (hJ : F_X12_count_B4 s x0 x1 x2 = some τ) (hC : (C_X12_count_4 N xs s d r (fun τ => r = (some (.int τ), (SH, s)))) τ) : Rn N xs (d + 0) me293 4 [some (.int x0), some (.int x1), some (.int x2)] [] (SH, s) r := by
  unfold F_X12_count_B4 at hJ
  refine Rn_sq srt293 4 3 (pc' := (if (c8 12) ≤ x2 then 24 else 10)) (ls' := [some (.int x0), some (.int x1), some (.int x2)]) (st' := []) (h1 := (SH, s)) rfl (Rn_if (fun h1 => ?_) (fun h1 => ?_))
  · replace hJ := m_ifp h1 hJ
    refine Rn_sq srt293 17 1 (pc' := 25) (ls' := [some (.int x0), some (.int x1), some (.int x2)]) (st' := [(.int x1)]) (h1 := (SH, s)) rfl ?_
    rw [← Option.some.inj hJ] at hC
    have hC : r = (some (.int x1), (SH, s)) := hC
    subst hC
    exact Rn_ret srt293 18 rfl rfl rfl
  · replace hJ := m_ifn h1 hJ
    extract_lets +onlyGivenNames v2 at hJ
    refine Rn_sq srt293 7 10 (pc' := 4) (ls' := [some (.int x0), some (.int v2), some (.int (x2 + ci 1))]) (st' := []) (h1 := (SH, s)) rfl ?_
    rw [← Option.some.inj hJ] at hC
    exact hC
def F_X12_count_L4 (s : mG) (x0 : Int32) (x1 : Int32) (x2 : Int32) : Option (Int32) := whl (fun (v : (Int32 × Int32 × Int32)) => F_X12_count_B4 s v.1 v.2.1 v.2.2) (x0, x1, x2)
theorem k_X12_count_L4 {N : Nat} {xs : Nat → Int32} (d : Nat) {r : Option Value × mH} {s : mG} {x0 : Int32} {x1 : Int32} {x2 : Int32} {τ : (Int32)} (hJ : F_X12_count_L4 s x0 x1 x2 = some τ) (hC : (fun τ => r = (some (.int τ), (SH, s))) τ) : Rn N xs (d + 0) me293 4 [some (.int x0), some (.int x1), some (.int x2)] [] (SH, s) r :=
  whl_link (P := fun (v : (Int32 × Int32 × Int32)) => Rn N xs (d + 0) me293 4 [some (.int v.1), some (.int v.2.1), some (.int v.2.2)] [] (SH, s) r) (C := (C_X12_count_4 N xs s d r (fun τ => r = (some (.int τ), (SH, s))))) (fun v τ h1 h2 => k_X12_count_B4 d h1 h2) (fun _ h => h) (fun _ h => h) _ _ hJ hC
def F_X12_count (s : mG) (a1 : Int32) : Option (Int32) :=
  F_X12_count_L4 s a1 (ci 0) (ci 0)
set_option maxRecDepth 4000 in
theorem k_X12_count_r {N : Nat} {xs : Nat → Int32} (d : Nat) {r : Option Value × mH} {s : mG} {a1 : Int32} {τ : (Int32)} (hJ : F_X12_count s a1 = some τ) (hC : (fun τ => r = (some (.int τ), (SH, s))) τ) : Rn N xs (d + 0) me293 0 [some (.int a1), none, none] [] (SH, s) r := by
  unfold F_X12_count at hJ
  refine Rn_sq srt293 0 4 (pc' := 4) (ls' := [some (.int a1), some (.int (ci 0)), some (.int (ci 0))]) (st' := []) (h1 := (SH, s)) rfl ?_
  exact (k_X12_count_L4 d hJ hC)
theorem k_X12_count {N : Nat} {xs : Nat → Int32} (d : Nat) {s : mG} {a1 : Int32} {τ : (Int32)} (hJ : F_X12_count s a1 = some τ) : Rn N xs (d + 0) me293 0 [some (.int a1), none, none] [] (SH, s) (some (.int τ), (SH, s)) := k_X12_count_r d hJ rfl
/-! IsHeInModel.done(I)I -/
theorem srt294 : m_srt mc294 = true := by decide +kernel
def C_X12_done_15 (N : Nat) (xs : Nat → Int32) (s : mG) (d : Nat) (r : Option Value × mH) (C : (Int32) → Prop) : ((Int32 × Int32 × Int32) ⊕ (Int32)) → Prop
  | .inl v => Rn N xs (d + 2) me294 15 [some (.ref 88), some (.int v.1), some (.int v.2.1), some (.int v.2.2), none] [] (SH, s) r
  | .inr a => C a
def F_X12_done_75 (s : mG) (x1 : Int32) (x2 : Int32) (x3 : Int32) : Option ((Int32 × Int32 × Int32) ⊕ (Int32)) :=
  some (Sum.inl (x1, x2, (x3 + ci 1)))
set_option maxRecDepth 4000 in
theorem k_X12_done_75 {N : Nat} {xs : Nat → Int32} (d : Nat) {r : Option Value × mH} {s : mG} {x1 : Int32} {x2 : Int32} {x3 : Int32} {τ : ((Int32 × Int32 × Int32) ⊕ (Int32))} (hJ : F_X12_done_75 s x1 x2 x3 = some τ) (hC : (C_X12_done_15 N xs s d r (fun τ => r = (some (.int τ), (SH, s)))) τ) : Rn N xs (d + 2) me294 75 [some (.ref 88), some (.int x1), some (.int x2), some (.int x3), none] [] (SH, s) r := by
  unfold F_X12_done_75 at hJ
  refine Rn_sq srt294 43 2 (pc' := 15) (ls' := [some (.ref 88), some (.int x1), some (.int x2), some (.int (x3 + ci 1)), none]) (st' := []) (h1 := (SH, s)) rfl ?_
  rw [← Option.some.inj hJ] at hC
  exact hC
def F_X12_done_73 (s : mG) (x1 : Int32) (x3 : Int32) : Option ((Int32 × Int32 × Int32) ⊕ (Int32)) :=
  F_X12_done_75 s x1 x3 x3
set_option maxRecDepth 4000 in
theorem k_X12_done_73 {N : Nat} {xs : Nat → Int32} (d : Nat) {r : Option Value × mH} {s : mG} {x1 : Int32} {x3 : Int32} {τ : ((Int32 × Int32 × Int32) ⊕ (Int32))} (hJ : F_X12_done_73 s x1 x3 = some τ) (hC : (C_X12_done_15 N xs s d r (fun τ => r = (some (.int τ), (SH, s)))) τ) : Rn N xs (d + 2) me294 73 [some (.ref 88), some (.int x1), none, some (.int x3), none] [] (SH, s) r := by
  unfold F_X12_done_73 at hJ
  refine Rn_sq srt294 41 2 (pc' := 75) (ls' := [some (.ref 88), some (.int x1), some (.int x3), some (.int x3), none]) (st' := []) (h1 := (SH, s)) rfl ?_
  exact (k_X12_done_75 d hJ hC)
def F_X12_done_B15 (s : mG) (x1 : Int32) (x2 : Int32) (x3 : Int32) : Option ((Int32 × Int32 × Int32) ⊕ (Int32)) :=
  if ((ci 1) <<< ((s.1 89 118) &&& 31)) ≤ x3 then
    if x1 = 0 then
      b1 (F_X12_worthOfSet s x2) fun v7 =>
      some (Sum.inr v7)
    else
      some (Sum.inr x2)
  else
    b1 (F_X12_canDo s x3) fun v9 =>
    if v9 = 0 then
      F_X12_done_75 s x1 x2 x3
    else
      b1 (F_X12_worthOfSet s x3) fun v12 =>
      b1 (F_X12_worthOfSet s x2) fun v14 =>
      if 0 < (v12 - v14) then
        F_X12_done_73 s x1 x3
      else
        if (v12 - v14) = 0 then
          b1 (F_X12_count s x3) fun v18 =>
          b1 (F_X12_count s x2) fun v20 =>
          if v20 ≤ v18 then
            F_X12_done_75 s x1 x2 x3
          else
            F_X12_done_73 s x1 x3
        else
          F_X12_done_75 s x1 x2 x3
set_option maxRecDepth 4000 in
theorem k_X12_done_B15 {N : Nat} {xs : Nat → Int32} (d : Nat) {r : Option Value × mH} {s : mG} {x1 : Int32} {x2 : Int32} {x3 : Int32} {τ : ((Int32 × Int32 × Int32) ⊕ (Int32))} (hJ : F_X12_done_B15 s x1 x2 x3 = some τ) (hC : (C_X12_done_15 N xs s d r (fun τ => r = (some (.int τ), (SH, s)))) τ) : Rn N xs (d + 2) me294 15 [some (.ref 88), some (.int x1), some (.int x2), some (.int x3), none] [] (SH, s) r := by
  unfold F_X12_done_B15 at hJ
  refine Rn_sq srt294 11 5 (pc' := 23) (ls' := [some (.ref 88), some (.int x1), some (.int x2), some (.int x3), none]) (st' := [(.int (c8 118)), (.ref 89), (.int (ci 1)), (.int x3)]) (h1 := (SH, s)) rfl ?_
  refine Rn_ev srt294 16 rfl rfl rfl (op_ia sh89 (by decide) (k := 118) rfl) ?_
  refine Rn_sq srt294 17 2 (pc' := (if ((ci 1) <<< ((s.1 89 118) &&& 31)) ≤ x3 then 81 else 28)) (ls' := [some (.ref 88), some (.int x1), some (.int x2), some (.int x3), none]) (st' := []) (h1 := (SH, s)) rfl (Rn_if (fun h4 => ?_) (fun h4 => ?_))
  · replace hJ := m_ifp h4 hJ
    refine Rn_sq srt294 45 2 (pc' := (if x1 = 0 then 85 else 93)) (ls' := [some (.ref 88), some (.int x1), some (.int x2), some (.int x3), none]) (st' := []) (h1 := (SH, s)) rfl (Rn_if (fun h5 => ?_) (fun h5 => ?_))
    · replace hJ := m_ifp h5 hJ
      refine Rn_sq srt294 47 2 (pc' := 87) (ls' := [some (.ref 88), some (.int x1), some (.int x2), some (.int x3), none]) (st' := [(.int x2), (.ref 88)]) (h1 := (SH, s)) rfl ?_
      obtain ⟨v7, h6, hJ⟩ := m_b1 hJ
      refine Rn_call srt294 49 rfl rfl rfl ⟨Nat.le_of_ble_eq_true rfl, Nat.le_of_ble_eq_true rfl, rfl, Nat.le_of_ble_eq_true rfl⟩ (k_X12_worthOfSet (d) h6) (show Rn N xs (d + 2) me294 90 [some (.ref 88), some (.int x1), some (.int x2), some (.int x3), none] [(.int v7)] (SH, s) r from ?_)
      refine Rn_sq srt294 50 1 (pc' := 94) (ls' := [some (.ref 88), some (.int x1), some (.int x2), some (.int x3), none]) (st' := [(.int v7)]) (h1 := (SH, s)) rfl ?_
      rw [← Option.some.inj hJ] at hC
      have hC : r = (some (.int v7), (SH, s)) := hC
      subst hC
      exact Rn_ret srt294 52 rfl rfl rfl
    · replace hJ := m_ifn h5 hJ
      refine Rn_sq srt294 51 1 (pc' := 94) (ls' := [some (.ref 88), some (.int x1), some (.int x2), some (.int x3), none]) (st' := [(.int x2)]) (h1 := (SH, s)) rfl ?_
      rw [← Option.some.inj hJ] at hC
      have hC : r = (some (.int x2), (SH, s)) := hC
      subst hC
      exact Rn_ret srt294 52 rfl rfl rfl
  · replace hJ := m_ifn h4 hJ
    refine Rn_sq srt294 19 2 (pc' := 30) (ls' := [some (.ref 88), some (.int x1), some (.int x2), some (.int x3), none]) (st' := [(.int x3), (.ref 88)]) (h1 := (SH, s)) rfl ?_
    obtain ⟨v9, h8, hJ⟩ := m_b1 hJ
    refine Rn_call srt294 21 rfl rfl rfl ⟨Nat.le_of_ble_eq_true rfl, Nat.le_of_ble_eq_true rfl, rfl, Nat.le_of_ble_eq_true rfl⟩ (k_X12_canDo (d) h8) (show Rn N xs (d + 2) me294 33 [some (.ref 88), some (.int x1), some (.int x2), some (.int x3), none] [(.int v9)] (SH, s) r from ?_)
    refine Rn_sq srt294 22 1 (pc' := (if v9 = 0 then 36 else 39)) (ls' := [some (.ref 88), some (.int x1), some (.int x2), some (.int x3), none]) (st' := []) (h1 := (SH, s)) rfl (Rn_if (fun h10 => ?_) (fun h10 => ?_))
    · replace hJ := m_ifp h10 hJ
      refine Rn_sq srt294 23 1 (pc' := 75) (ls' := [some (.ref 88), some (.int x1), some (.int x2), some (.int x3), none]) (st' := []) (h1 := (SH, s)) rfl ?_
      exact (k_X12_done_75 d hJ hC)
    · replace hJ := m_ifn h10 hJ
      refine Rn_sq srt294 24 2 (pc' := 41) (ls' := [some (.ref 88), some (.int x1), some (.int x2), some (.int x3), none]) (st' := [(.int x3), (.ref 88)]) (h1 := (SH, s)) rfl ?_
      obtain ⟨v12, h11, hJ⟩ := m_b1 hJ
      refine Rn_call srt294 26 rfl rfl rfl ⟨Nat.le_of_ble_eq_true rfl, Nat.le_of_ble_eq_true rfl, rfl, Nat.le_of_ble_eq_true rfl⟩ (k_X12_worthOfSet (d) h11) (show Rn N xs (d + 2) me294 44 [some (.ref 88), some (.int x1), some (.int x2), some (.int x3), none] [(.int v12)] (SH, s) r from ?_)
      refine Rn_sq srt294 27 2 (pc' := 46) (ls' := [some (.ref 88), some (.int x1), some (.int x2), some (.int x3), none]) (st' := [(.int x2), (.ref 88), (.int v12)]) (h1 := (SH, s)) rfl ?_
      obtain ⟨v14, h13, hJ⟩ := m_b1 hJ
      refine Rn_call srt294 29 rfl rfl rfl ⟨Nat.le_of_ble_eq_true rfl, Nat.le_of_ble_eq_true rfl, rfl, Nat.le_of_ble_eq_true rfl⟩ (k_X12_worthOfSet (d) h13) (show Rn N xs (d + 2) me294 49 [some (.ref 88), some (.int x1), some (.int x2), some (.int x3), none] [(.int v14), (.int v12)] (SH, s) r from ?_)
      refine Rn_sq srt294 30 4 (pc' := (if 0 < (v12 - v14) then 73 else 57)) (ls' := [some (.ref 88), some (.int x1), some (.int x2), some (.int x3), some (.int (v12 - v14))]) (st' := []) (h1 := (SH, s)) rfl (Rn_if (fun h15 => ?_) (fun h15 => ?_))
      · replace hJ := m_ifp h15 hJ
        exact Rn_weaken (a := [some (.ref 88), some (.int x1), none, some (.int x3), none]) (b := [some (.ref 88), some (.int x1), some (.int x2), some (.int x3), some (.int (v12 - v14))]) (And.intro rfl (And.intro rfl (And.intro rfl trivial))) rfl (k_X12_done_73 d hJ hC)
      · replace hJ := m_ifn h15 hJ
        refine Rn_sq srt294 34 2 (pc' := (if (v12 - v14) = 0 then 62 else 75)) (ls' := [some (.ref 88), some (.int x1), some (.int x2), some (.int x3), some (.int (v12 - v14))]) (st' := []) (h1 := (SH, s)) rfl (Rn_if (fun h16 => ?_) (fun h16 => ?_))
        · replace hJ := m_ifp h16 hJ
          refine Rn_sq srt294 36 1 (pc' := 63) (ls' := [some (.ref 88), some (.int x1), some (.int x2), some (.int x3), some (.int (v12 - v14))]) (st' := [(.int x3)]) (h1 := (SH, s)) rfl ?_
          obtain ⟨v18, h17, hJ⟩ := m_b1 hJ
          refine Rn_call srt294 37 rfl rfl rfl ⟨Nat.le_of_ble_eq_true rfl, Nat.le_of_ble_eq_true rfl, rfl, Nat.le_of_ble_eq_true rfl⟩ (k_X12_count (d + 1) h17) (show Rn N xs (d + 2) me294 66 [some (.ref 88), some (.int x1), some (.int x2), some (.int x3), some (.int (v12 - v14))] [(.int v18)] (SH, s) r from ?_)
          refine Rn_sq srt294 38 1 (pc' := 67) (ls' := [some (.ref 88), some (.int x1), some (.int x2), some (.int x3), some (.int (v12 - v14))]) (st' := [(.int x2), (.int v18)]) (h1 := (SH, s)) rfl ?_
          obtain ⟨v20, h19, hJ⟩ := m_b1 hJ
          refine Rn_call srt294 39 rfl rfl rfl ⟨Nat.le_of_ble_eq_true rfl, Nat.le_of_ble_eq_true rfl, rfl, Nat.le_of_ble_eq_true rfl⟩ (k_X12_count (d + 1) h19) (show Rn N xs (d + 2) me294 70 [some (.ref 88), some (.int x1), some (.int x2), some (.int x3), some (.int (v12 - v14))] [(.int v20), (.int v18)] (SH, s) r from ?_)
          refine Rn_sq srt294 40 1 (pc' := (if v20 ≤ v18 then 75 else 73)) (ls' := [some (.ref 88), some (.int x1), some (.int x2), some (.int x3), some (.int (v12 - v14))]) (st' := []) (h1 := (SH, s)) rfl (Rn_if (fun h21 => ?_) (fun h21 => ?_))
          · replace hJ := m_ifp h21 hJ
            exact Rn_weaken (a := [some (.ref 88), some (.int x1), some (.int x2), some (.int x3), none]) (b := [some (.ref 88), some (.int x1), some (.int x2), some (.int x3), some (.int (v12 - v14))]) (And.intro rfl (And.intro rfl (And.intro rfl (And.intro rfl trivial)))) rfl (k_X12_done_75 d hJ hC)
          · replace hJ := m_ifn h21 hJ
            exact Rn_weaken (a := [some (.ref 88), some (.int x1), none, some (.int x3), none]) (b := [some (.ref 88), some (.int x1), some (.int x2), some (.int x3), some (.int (v12 - v14))]) (And.intro rfl (And.intro rfl (And.intro rfl trivial))) rfl (k_X12_done_73 d hJ hC)
        · replace hJ := m_ifn h16 hJ
          exact Rn_weaken (a := [some (.ref 88), some (.int x1), some (.int x2), some (.int x3), none]) (b := [some (.ref 88), some (.int x1), some (.int x2), some (.int x3), some (.int (v12 - v14))]) (And.intro rfl (And.intro rfl (And.intro rfl (And.intro rfl trivial)))) rfl (k_X12_done_75 d hJ hC)
def F_X12_done_L15 (s : mG) (x1 : Int32) (x2 : Int32) (x3 : Int32) : Option (Int32) := whl (fun (v : (Int32 × Int32 × Int32)) => F_X12_done_B15 s v.1 v.2.1 v.2.2) (x1, x2, x3)
theorem k_X12_done_L15 {N : Nat} {xs : Nat → Int32} (d : Nat) {r : Option Value × mH} {s : mG} {x1 : Int32} {x2 : Int32} {x3 : Int32} {τ : (Int32)} (hJ : F_X12_done_L15 s x1 x2 x3 = some τ) (hC : (fun τ => r = (some (.int τ), (SH, s))) τ) : Rn N xs (d + 2) me294 15 [some (.ref 88), some (.int x1), some (.int x2), some (.int x3), none] [] (SH, s) r :=
  whl_link (P := fun (v : (Int32 × Int32 × Int32)) => Rn N xs (d + 2) me294 15 [some (.ref 88), some (.int v.1), some (.int v.2.1), some (.int v.2.2), none] [] (SH, s) r) (C := (C_X12_done_15 N xs s d r (fun τ => r = (some (.int τ), (SH, s))))) (fun v τ h1 h2 => k_X12_done_B15 d h1 h2) (fun _ h => h) (fun _ h => h) _ _ hJ hC
def F_X12_done (s : mG) (a1 : Int32) : Option (Int32) :=
  b1 (F_X12_isIn s a1 (ci 0) (ci 1)) fun v2 =>
  if v2 = 0 then
    some (ci (-1))
  else
    F_X12_done_L15 s a1 (ci 0) (ci 1)
set_option maxRecDepth 4000 in
theorem k_X12_done_r {N : Nat} {xs : Nat → Int32} (d : Nat) {r : Option Value × mH} {s : mG} {a1 : Int32} {τ : (Int32)} (hJ : F_X12_done s a1 = some τ) (hC : (fun τ => r = (some (.int τ), (SH, s))) τ) : Rn N xs (d + 2) me294 0 [some (.ref 88), some (.int a1), none, none, none] [] (SH, s) r := by
  unfold F_X12_done at hJ
  refine Rn_sq srt294 0 3 (pc' := 3) (ls' := [some (.ref 88), some (.int a1), none, none, none]) (st' := [(.int (ci 1)), (.int (ci 0)), (.int a1)]) (h1 := (SH, s)) rfl ?_
  obtain ⟨v2, h1, hJ⟩ := m_b1 hJ
  refine Rn_call srt294 3 rfl rfl rfl ⟨Nat.le_of_ble_eq_true rfl, Nat.le_of_ble_eq_true rfl, rfl, Nat.le_of_ble_eq_true rfl⟩ (k_X12_isIn (d + 1) h1) (show Rn N xs (d + 2) me294 6 [some (.ref 88), some (.int a1), none, none, none] [(.int v2)] (SH, s) r from ?_)
  refine Rn_sq srt294 4 1 (pc' := (if v2 = 0 then 9 else 11)) (ls' := [some (.ref 88), some (.int a1), none, none, none]) (st' := []) (h1 := (SH, s)) rfl (Rn_if (fun h3 => ?_) (fun h3 => ?_))
  · replace hJ := m_ifp h3 hJ
    refine Rn_sq srt294 5 1 (pc' := 10) (ls' := [some (.ref 88), some (.int a1), none, none, none]) (st' := [(.int (ci (-1)))]) (h1 := (SH, s)) rfl ?_
    rw [← Option.some.inj hJ] at hC
    have hC : r = (some (.int (ci (-1))), (SH, s)) := hC
    subst hC
    exact Rn_ret srt294 6 rfl rfl rfl
  · replace hJ := m_ifn h3 hJ
    refine Rn_sq srt294 7 4 (pc' := 15) (ls' := [some (.ref 88), some (.int a1), some (.int (ci 0)), some (.int (ci 1)), none]) (st' := []) (h1 := (SH, s)) rfl ?_
    exact (k_X12_done_L15 d hJ hC)
theorem k_X12_done {N : Nat} {xs : Nat → Int32} (d : Nat) {s : mG} {a1 : Int32} {τ : (Int32)} (hJ : F_X12_done s a1 = some τ) : Rn N xs (d + 2) me294 0 [some (.ref 88), some (.int a1), none, none, none] [] (SH, s) (some (.int τ), (SH, s)) := k_X12_done_r d hJ rfl
/-! IsHeInModel.swappedSet()I -/
theorem srt295 : m_srt mc295 = true := by decide +kernel
def C_X12_swappedSet_4 (N : Nat) (xs : Nat → Int32) (s : mG) (d : Nat) (r : Option Value × mH) (C : (Int32) → Prop) : ((Int32 × Int32) ⊕ (Int32)) → Prop
  | .inl v => Rn N xs (d + 0) me295 4 [some (.ref 88), some (.int v.1), some (.int v.2)] [] (SH, s) r
  | .inr a => C a
def F_X12_swappedSet_57 (s : mG) (x2 : Int32) (y0 : Int32) (y1 : Int32) : Option ((Int32 × Int32) ⊕ (Int32)) :=
  some (Sum.inl ((y0 ||| y1), (x2 + ci 1)))
set_option maxRecDepth 4000 in
theorem k_X12_swappedSet_57 {N : Nat} {xs : Nat → Int32} (d : Nat) {r : Option Value × mH} {s : mG} {x2 : Int32} {y0 : Int32} {y1 : Int32} {τ : ((Int32 × Int32) ⊕ (Int32))} (hJ : F_X12_swappedSet_57 s x2 y0 y1 = some τ) (hC : (C_X12_swappedSet_4 N xs s d r (fun τ => r = (some (.int τ), (SH, s)))) τ) : Rn N xs (d + 0) me295 57 [some (.ref 88), none, some (.int x2)] [(.int y1), (.int y0)] (SH, s) r := by
  unfold F_X12_swappedSet_57 at hJ
  refine Rn_sq srt295 37 4 (pc' := 4) (ls' := [some (.ref 88), some (.int (y0 ||| y1)), some (.int (x2 + ci 1))]) (st' := []) (h1 := (SH, s)) rfl ?_
  rw [← Option.some.inj hJ] at hC
  exact hC
def F_X12_swappedSet_56 (s : mG) (x2 : Int32) (y0 : Int32) : Option ((Int32 × Int32) ⊕ (Int32)) :=
  F_X12_swappedSet_57 s x2 y0 (ci 0)
set_option maxRecDepth 4000 in
theorem k_X12_swappedSet_56 {N : Nat} {xs : Nat → Int32} (d : Nat) {r : Option Value × mH} {s : mG} {x2 : Int32} {y0 : Int32} {τ : ((Int32 × Int32) ⊕ (Int32))} (hJ : F_X12_swappedSet_56 s x2 y0 = some τ) (hC : (C_X12_swappedSet_4 N xs s d r (fun τ => r = (some (.int τ), (SH, s)))) τ) : Rn N xs (d + 0) me295 56 [some (.ref 88), none, some (.int x2)] [(.int y0)] (SH, s) r := by
  unfold F_X12_swappedSet_56 at hJ
  refine Rn_sq srt295 36 1 (pc' := 57) (ls' := [some (.ref 88), none, some (.int x2)]) (st' := [(.int (ci 0)), (.int y0)]) (h1 := (SH, s)) rfl ?_
  exact (k_X12_swappedSet_57 d hJ hC)
def F_X12_swappedSet_B4 (s : mG) (x1 : Int32) (x2 : Int32) : Option ((Int32 × Int32) ⊕ (Int32)) :=
  if (s.1 89 112) ≤ x2 then
    some (Sum.inr x1)
  else
    if ((c8 15) + x2) < 0 ∨ 1894 ≤ ((c8 15) + x2).toNatClampNeg then none else
    if (s.1 89 ((c8 15) + x2).toNatClampNeg) = (ci (-1)) then
      F_X12_swappedSet_56 s x2 x1
    else
      if ((c8 15) + x2) < 0 ∨ 1894 ≤ ((c8 15) + x2).toNatClampNeg then none else
      if (s.1 89 ((c8 15) + x2).toNatClampNeg) = x2 then
        F_X12_swappedSet_56 s x2 x1
      else
        if ((c8 15) + x2) < 0 ∨ 1894 ≤ ((c8 15) + x2).toNatClampNeg then none else
        F_X12_swappedSet_57 s x2 x1 ((ci 1) <<< ((s.1 89 ((c8 15) + x2).toNatClampNeg) &&& 31))
set_option maxRecDepth 4000 in
theorem k_X12_swappedSet_B4 {N : Nat} {xs : Nat → Int32} (d : Nat) {r : Option Value × mH} {s : mG} {x1 : Int32} {x2 : Int32} {τ : ((Int32 × Int32) ⊕ (Int32))} (hJ : F_X12_swappedSet_B4 s x1 x2 = some τ) (hC : (C_X12_swappedSet_4 N xs s d r (fun τ => r = (some (.int τ), (SH, s)))) τ) : Rn N xs (d + 0) me295 4 [some (.ref 88), some (.int x1), some (.int x2)] [] (SH, s) r := by
  unfold F_X12_swappedSet_B4 at hJ
  refine Rn_sq srt295 4 4 (pc' := 11) (ls' := [some (.ref 88), some (.int x1), some (.int x2)]) (st' := [(.int (c8 112)), (.ref 89), (.int x2)]) (h1 := (SH, s)) rfl ?_
  refine Rn_ev srt295 8 rfl rfl rfl (op_ia sh89 (by decide) (k := 112) rfl) ?_
  refine Rn_sq srt295 9 1 (pc' := (if (s.1 89 112) ≤ x2 then 65 else 15)) (ls' := [some (.ref 88), some (.int x1), some (.int x2)]) (st' := []) (h1 := (SH, s)) rfl (Rn_if (fun h1 => ?_) (fun h1 => ?_))
  · replace hJ := m_ifp h1 hJ
    refine Rn_sq srt295 41 1 (pc' := 66) (ls' := [some (.ref 88), some (.int x1), some (.int x2)]) (st' := [(.int x1)]) (h1 := (SH, s)) rfl ?_
    rw [← Option.some.inj hJ] at hC
    have hC : r = (some (.int x1), (SH, s)) := hC
    subst hC
    exact Rn_ret srt295 42 rfl rfl rfl
  · replace hJ := m_ifn h1 hJ
    refine Rn_sq srt295 10 6 (pc' := 24) (ls' := [some (.ref 88), some (.int x1), some (.int x2)]) (st' := [(.int ((c8 15) + x2)), (.ref 89), (.int x1)]) (h1 := (SH, s)) rfl ?_
    obtain ⟨h2, hJ⟩ := m_gn hJ
    refine Rn_ev srt295 16 rfl rfl rfl (op_ia sh89 h2 (k := ((c8 15) + x2).toNatClampNeg) rfl) ?_
    refine Rn_sq srt295 17 2 (pc' := (if (s.1 89 ((c8 15) + x2).toNatClampNeg) = (ci (-1)) then 56 else 29)) (ls' := [some (.ref 88), some (.int x1), some (.int x2)]) (st' := [(.int x1)]) (h1 := (SH, s)) rfl (Rn_if (fun h3 => ?_) (fun h3 => ?_))
    · replace hJ := m_ifp h3 hJ
      exact Rn_weaken (a := [some (.ref 88), none, some (.int x2)]) (b := [some (.ref 88), some (.int x1), some (.int x2)]) (And.intro rfl (And.intro rfl trivial)) rfl (k_X12_swappedSet_56 d hJ hC)
    · replace hJ := m_ifn h3 hJ
      refine Rn_sq srt295 19 5 (pc' := 37) (ls' := [some (.ref 88), some (.int x1), some (.int x2)]) (st' := [(.int ((c8 15) + x2)), (.ref 89), (.int x1)]) (h1 := (SH, s)) rfl ?_
      obtain ⟨h4, hJ⟩ := m_gn hJ
      refine Rn_ev srt295 24 rfl rfl rfl (op_ia sh89 h4 (k := ((c8 15) + x2).toNatClampNeg) rfl) ?_
      refine Rn_sq srt295 25 2 (pc' := (if (s.1 89 ((c8 15) + x2).toNatClampNeg) = x2 then 56 else 42)) (ls' := [some (.ref 88), some (.int x1), some (.int x2)]) (st' := [(.int x1)]) (h1 := (SH, s)) rfl (Rn_if (fun h5 => ?_) (fun h5 => ?_))
      · replace hJ := m_ifp h5 hJ
        exact Rn_weaken (a := [some (.ref 88), none, some (.int x2)]) (b := [some (.ref 88), some (.int x1), some (.int x2)]) (And.intro rfl (And.intro rfl trivial)) rfl (k_X12_swappedSet_56 d hJ hC)
      · replace hJ := m_ifn h5 hJ
        refine Rn_sq srt295 27 6 (pc' := 51) (ls' := [some (.ref 88), some (.int x1), some (.int x2)]) (st' := [(.int ((c8 15) + x2)), (.ref 89), (.int (ci 1)), (.int x1)]) (h1 := (SH, s)) rfl ?_
        obtain ⟨h6, hJ⟩ := m_gn hJ
        refine Rn_ev srt295 33 rfl rfl rfl (op_ia sh89 h6 (k := ((c8 15) + x2).toNatClampNeg) rfl) ?_
        refine Rn_sq srt295 34 2 (pc' := 57) (ls' := [some (.ref 88), some (.int x1), some (.int x2)]) (st' := [(.int ((ci 1) <<< ((s.1 89 ((c8 15) + x2).toNatClampNeg) &&& 31))), (.int x1)]) (h1 := (SH, s)) rfl ?_
        exact Rn_weaken (a := [some (.ref 88), none, some (.int x2)]) (b := [some (.ref 88), some (.int x1), some (.int x2)]) (And.intro rfl (And.intro rfl trivial)) rfl (k_X12_swappedSet_57 d hJ hC)
def F_X12_swappedSet_L4 (s : mG) (x1 : Int32) (x2 : Int32) : Option (Int32) := whl (fun (v : (Int32 × Int32)) => F_X12_swappedSet_B4 s v.1 v.2) (x1, x2)
theorem k_X12_swappedSet_L4 {N : Nat} {xs : Nat → Int32} (d : Nat) {r : Option Value × mH} {s : mG} {x1 : Int32} {x2 : Int32} {τ : (Int32)} (hJ : F_X12_swappedSet_L4 s x1 x2 = some τ) (hC : (fun τ => r = (some (.int τ), (SH, s))) τ) : Rn N xs (d + 0) me295 4 [some (.ref 88), some (.int x1), some (.int x2)] [] (SH, s) r :=
  whl_link (P := fun (v : (Int32 × Int32)) => Rn N xs (d + 0) me295 4 [some (.ref 88), some (.int v.1), some (.int v.2)] [] (SH, s) r) (C := (C_X12_swappedSet_4 N xs s d r (fun τ => r = (some (.int τ), (SH, s))))) (fun v τ h1 h2 => k_X12_swappedSet_B4 d h1 h2) (fun _ h => h) (fun _ h => h) _ _ hJ hC
def F_X12_swappedSet (s : mG) : Option (Int32) :=
  F_X12_swappedSet_L4 s (ci 0) (ci 0)
set_option maxRecDepth 4000 in
theorem k_X12_swappedSet_r {N : Nat} {xs : Nat → Int32} (d : Nat) {r : Option Value × mH} {s : mG} {τ : (Int32)} (hJ : F_X12_swappedSet s = some τ) (hC : (fun τ => r = (some (.int τ), (SH, s))) τ) : Rn N xs (d + 0) me295 0 [some (.ref 88), none, none] [] (SH, s) r := by
  unfold F_X12_swappedSet at hJ
  refine Rn_sq srt295 0 4 (pc' := 4) (ls' := [some (.ref 88), some (.int (ci 0)), some (.int (ci 0))]) (st' := []) (h1 := (SH, s)) rfl ?_
  exact (k_X12_swappedSet_L4 d hJ hC)
theorem k_X12_swappedSet {N : Nat} {xs : Nat → Int32} (d : Nat) {s : mG} {τ : (Int32)} (hJ : F_X12_swappedSet s = some τ) : Rn N xs (d + 0) me295 0 [some (.ref 88), none, none] [] (SH, s) (some (.int τ), (SH, s)) := k_X12_swappedSet_r d hJ rfl
/-! IsHeInModel.leadsRing(I)Z -/
theorem srt296 : m_srt mc296 = true := by decide +kernel
def C_X12_leadsRing_10 (N : Nat) (xs : Nat → Int32) (s : mG) (d : Nat) (r : Option Value × mH) (C : (Int32) → Prop) : ((Int32 × Int32) ⊕ (Int32)) → Prop
  | .inl v => Rn N xs (d + 0) me296 10 [some (.ref 88), some (.int v.1), some (.int v.2)] [] (SH, s) r
  | .inr a => C a
def F_X12_leadsRing_33 (s : mG) (x1 : Int32) (x2 : Int32) : Option (Int32) :=
  if x2 = x1 then
    some (ci 1)
  else
    some (ci 0)
set_option maxRecDepth 4000 in
theorem k_X12_leadsRing_33 {N : Nat} {xs : Nat → Int32} (d : Nat) {r : Option Value × mH} {s : mG} {x1 : Int32} {x2 : Int32} {τ : (Int32)} (hJ : F_X12_leadsRing_33 s x1 x2 = some τ) (hC : (fun τ => r = (some (.int τ), (SH, s))) τ) : Rn N xs (d + 0) me296 33 [none, some (.int x1), some (.int x2)] [] (SH, s) r := by
  unfold F_X12_leadsRing_33 at hJ
  refine Rn_sq srt296 21 3 (pc' := (if x2 = x1 then 38 else 42)) (ls' := [none, some (.int x1), some (.int x2)]) (st' := []) (h1 := (SH, s)) rfl (Rn_if (fun h4 => ?_) (fun h4 => ?_))
  · replace hJ := m_ifp h4 hJ
    refine Rn_sq srt296 24 2 (pc' := 43) (ls' := [none, some (.int x1), some (.int x2)]) (st' := [(.int (ci 1))]) (h1 := (SH, s)) rfl ?_
    rw [← Option.some.inj hJ] at hC
    have hC : r = (some (.int (ci 1)), (SH, s)) := hC
    subst hC
    exact Rn_ret srt296 27 rfl rfl (m_ret_b rfl (by decide))
  · replace hJ := m_ifn h4 hJ
    refine Rn_sq srt296 26 1 (pc' := 43) (ls' := [none, some (.int x1), some (.int x2)]) (st' := [(.int (ci 0))]) (h1 := (SH, s)) rfl ?_
    rw [← Option.some.inj hJ] at hC
    have hC : r = (some (.int (ci 0)), (SH, s)) := hC
    subst hC
    exact Rn_ret srt296 27 rfl rfl (m_ret_b rfl (by decide))
def F_X12_leadsRing_B10 (s : mG) (x1 : Int32) (x2 : Int32) : Option ((Int32 × Int32) ⊕ (Int32)) :=
  if x2 = (ci (-1)) then
    b1 (F_X12_leadsRing_33 s x1 x2) fun τ => some (Sum.inr τ)
  else
    if x2 ≤ x1 then
      b1 (F_X12_leadsRing_33 s x1 x2) fun τ => some (Sum.inr τ)
    else
      if ((c8 15) + x2) < 0 ∨ 1894 ≤ ((c8 15) + x2).toNatClampNeg then none else
      let v7 : Int32 := (s.1 89 ((c8 15) + x2).toNatClampNeg)
      some (Sum.inl (x1, v7))
set_option maxRecDepth 4000 in
theorem k_X12_leadsRing_B10 {N : Nat} {xs : Nat → Int32} (d : Nat) {r : Option Value × mH} {s : mG} {x1 : Int32} {x2 : Int32} {τ : ((Int32 × Int32) ⊕ (Int32))} (hJ : F_X12_leadsRing_B10 s x1 x2 = some τ) (hC : (C_X12_leadsRing_10 N xs s d r (fun τ => r = (some (.int τ), (SH, s)))) τ) : Rn N xs (d + 0) me296 10 [some (.ref 88), some (.int x1), some (.int x2)] [] (SH, s) r := by
  unfold F_X12_leadsRing_B10 at hJ
  refine Rn_sq srt296 7 3 (pc' := (if x2 = (ci (-1)) then 33 else 15)) (ls' := [some (.ref 88), some (.int x1), some (.int x2)]) (st' := []) (h1 := (SH, s)) rfl (Rn_if (fun h3 => ?_) (fun h3 => ?_))
  · replace hJ := m_ifp h3 hJ
    obtain ⟨τ1, hJ1, hJ⟩ := m_b1 hJ
    rw [← Option.some.inj hJ] at hC
    exact Rn_weaken (a := [none, some (.int x1), some (.int x2)]) (b := [some (.ref 88), some (.int x1), some (.int x2)]) (And.intro rfl (And.intro rfl trivial)) rfl (k_X12_leadsRing_33 d hJ1 hC)
  · replace hJ := m_ifn h3 hJ
    refine Rn_sq srt296 10 3 (pc' := (if x2 ≤ x1 then 33 else 20)) (ls' := [some (.ref 88), some (.int x1), some (.int x2)]) (st' := []) (h1 := (SH, s)) rfl (Rn_if (fun h5 => ?_) (fun h5 => ?_))
    · replace hJ := m_ifp h5 hJ
      obtain ⟨τ1, hJ1, hJ⟩ := m_b1 hJ
      rw [← Option.some.inj hJ] at hC
      exact Rn_weaken (a := [none, some (.int x1), some (.int x2)]) (b := [some (.ref 88), some (.int x1), some (.int x2)]) (And.intro rfl (And.intro rfl trivial)) rfl (k_X12_leadsRing_33 d hJ1 hC)
    · replace hJ := m_ifn h5 hJ
      refine Rn_sq srt296 13 5 (pc' := 28) (ls' := [some (.ref 88), some (.int x1), some (.int x2)]) (st' := [(.int ((c8 15) + x2)), (.ref 89)]) (h1 := (SH, s)) rfl ?_
      obtain ⟨h6, hJ⟩ := m_gn hJ
      refine Rn_ev srt296 18 rfl rfl rfl (op_ia sh89 h6 (k := ((c8 15) + x2).toNatClampNeg) rfl) ?_
      extract_lets +onlyGivenNames v7 at hJ
      refine Rn_sq srt296 19 2 (pc' := 10) (ls' := [some (.ref 88), some (.int x1), some (.int v7)]) (st' := []) (h1 := (SH, s)) rfl ?_
      rw [← Option.some.inj hJ] at hC
      exact hC
def F_X12_leadsRing_L10 (s : mG) (x1 : Int32) (x2 : Int32) : Option (Int32) := whl (fun (v : (Int32 × Int32)) => F_X12_leadsRing_B10 s v.1 v.2) (x1, x2)
theorem k_X12_leadsRing_L10 {N : Nat} {xs : Nat → Int32} (d : Nat) {r : Option Value × mH} {s : mG} {x1 : Int32} {x2 : Int32} {τ : (Int32)} (hJ : F_X12_leadsRing_L10 s x1 x2 = some τ) (hC : (fun τ => r = (some (.int τ), (SH, s))) τ) : Rn N xs (d + 0) me296 10 [some (.ref 88), some (.int x1), some (.int x2)] [] (SH, s) r :=
  whl_link (P := fun (v : (Int32 × Int32)) => Rn N xs (d + 0) me296 10 [some (.ref 88), some (.int v.1), some (.int v.2)] [] (SH, s) r) (C := (C_X12_leadsRing_10 N xs s d r (fun τ => r = (some (.int τ), (SH, s))))) (fun v τ h1 h2 => k_X12_leadsRing_B10 d h1 h2) (fun _ h => h) (fun _ h => h) _ _ hJ hC
def F_X12_leadsRing (s : mG) (a1 : Int32) : Option (Int32) :=
  if ((c8 15) + a1) < 0 ∨ 1894 ≤ ((c8 15) + a1).toNatClampNeg then none else
  let v2 : Int32 := (s.1 89 ((c8 15) + a1).toNatClampNeg)
  F_X12_leadsRing_L10 s a1 v2
set_option maxRecDepth 4000 in
theorem k_X12_leadsRing_r {N : Nat} {xs : Nat → Int32} (d : Nat) {r : Option Value × mH} {s : mG} {a1 : Int32} {τ : (Int32)} (hJ : F_X12_leadsRing s a1 = some τ) (hC : (fun τ => r = (some (.int τ), (SH, s))) τ) : Rn N xs (d + 0) me296 0 [some (.ref 88), some (.int a1), none] [] (SH, s) r := by
  unfold F_X12_leadsRing at hJ
  refine Rn_sq srt296 0 5 (pc' := 8) (ls' := [some (.ref 88), some (.int a1), none]) (st' := [(.int ((c8 15) + a1)), (.ref 89)]) (h1 := (SH, s)) rfl ?_
  obtain ⟨h1, hJ⟩ := m_gn hJ
  refine Rn_ev srt296 5 rfl rfl rfl (op_ia sh89 h1 (k := ((c8 15) + a1).toNatClampNeg) rfl) ?_
  extract_lets +onlyGivenNames v2 at hJ
  refine Rn_sq srt296 6 1 (pc' := 10) (ls' := [some (.ref 88), some (.int a1), some (.int v2)]) (st' := []) (h1 := (SH, s)) rfl ?_
  exact (k_X12_leadsRing_L10 d hJ hC)
theorem k_X12_leadsRing {N : Nat} {xs : Nat → Int32} (d : Nat) {s : mG} {a1 : Int32} {τ : (Int32)} (hJ : F_X12_leadsRing s a1 = some τ) : Rn N xs (d + 0) me296 0 [some (.ref 88), some (.int a1), none] [] (SH, s) (some (.int τ), (SH, s)) := k_X12_leadsRing_r d hJ rfl
/-! IsHeInModel.ring(I)I -/
theorem srt297 : m_srt mc297 = true := by decide +kernel
def C_X12_ring_14 (N : Nat) (xs : Nat → Int32) (s : mG) (d : Nat) (r : Option Value × mH) (C : (Int32) → Prop) : ((Int32 × Int32 × Int32) ⊕ (Int32)) → Prop
  | .inl v => Rn N xs (d + 2) me297 14 [some (.ref 88), some (.int v.1), some (.int v.2.1), some (.int v.2.2)] [] (SH, s) r
  | .inr a => C a
def F_X12_ring_69 (s : mG) : Option (Int32) :=
  some (ci 0)
set_option maxRecDepth 4000 in
theorem k_X12_ring_69 {N : Nat} {xs : Nat → Int32} (d : Nat) {r : Option Value × mH} {s : mG} {τ : (Int32)} (hJ : F_X12_ring_69 s = some τ) (hC : (fun τ => r = (some (.int τ), (SH, s))) τ) : Rn N xs (d + 2) me297 69 [none, none, none, none] [] (SH, s) r := by
  unfold F_X12_ring_69 at hJ
  refine Rn_sq srt297 41 1 (pc' := 70) (ls' := [none, none, none, none]) (st' := [(.int (ci 0))]) (h1 := (SH, s)) rfl ?_
  rw [← Option.some.inj hJ] at hC
  have hC : r = (some (.int (ci 0)), (SH, s)) := hC
  subst hC
  exact Rn_ret srt297 42 rfl rfl rfl
def F_X12_ring_55 (s : mG) (x1 : Int32) (x2 : Int32) (x3 : Int32) : Option (Int32) :=
  if x3 = x1 then
    if x2 ≤ (ci 1) then
      F_X12_ring_69 s
    else
      some x2
  else
    F_X12_ring_69 s
set_option maxRecDepth 4000 in
theorem k_X12_ring_55 {N : Nat} {xs : Nat → Int32} (d : Nat) {r : Option Value × mH} {s : mG} {x1 : Int32} {x2 : Int32} {x3 : Int32} {τ : (Int32)} (hJ : F_X12_ring_55 s x1 x2 x3 = some τ) (hC : (fun τ => r = (some (.int τ), (SH, s))) τ) : Rn N xs (d + 2) me297 55 [none, some (.int x1), some (.int x2), some (.int x3)] [] (SH, s) r := by
  unfold F_X12_ring_55 at hJ
  refine Rn_sq srt297 33 3 (pc' := (if x3 = x1 then 60 else 69)) (ls' := [none, some (.int x1), some (.int x2), some (.int x3)]) (st' := []) (h1 := (SH, s)) rfl (Rn_if (fun h5 => ?_) (fun h5 => ?_))
  · replace hJ := m_ifp h5 hJ
    refine Rn_sq srt297 36 3 (pc' := (if x2 ≤ (ci 1) then 69 else 65)) (ls' := [none, some (.int x1), some (.int x2), some (.int x3)]) (st' := []) (h1 := (SH, s)) rfl (Rn_if (fun h6 => ?_) (fun h6 => ?_))
    · replace hJ := m_ifp h6 hJ
      exact Rn_weaken (a := [none, none, none, none]) (b := [none, some (.int x1), some (.int x2), some (.int x3)]) trivial rfl (k_X12_ring_69 d hJ hC)
    · replace hJ := m_ifn h6 hJ
      refine Rn_sq srt297 39 2 (pc' := 70) (ls' := [none, some (.int x1), some (.int x2), some (.int x3)]) (st' := [(.int x2)]) (h1 := (SH, s)) rfl ?_
      rw [← Option.some.inj hJ] at hC
      have hC : r = (some (.int x2), (SH, s)) := hC
      subst hC
      exact Rn_ret srt297 42 rfl rfl rfl
  · replace hJ := m_ifn h5 hJ
    exact Rn_weaken (a := [none, none, none, none]) (b := [none, some (.int x1), some (.int x2), some (.int x3)]) trivial rfl (k_X12_ring_69 d hJ hC)
def F_X12_ring_39 (s : mG) (x1 : Int32) (x2 : Int32) (x3 : Int32) : Option ((Int32 × Int32 × Int32) ⊕ (Int32)) :=
  if ((c8 15) + x3) < 0 ∨ 1894 ≤ ((c8 15) + x3).toNatClampNeg then none else
  let v10 : Int32 := (s.1 89 ((c8 15) + x3).toNatClampNeg)
  some (Sum.inl (x1, (x2 + ci 1), v10))
set_option maxRecDepth 4000 in
theorem k_X12_ring_39 {N : Nat} {xs : Nat → Int32} (d : Nat) {r : Option Value × mH} {s : mG} {x1 : Int32} {x2 : Int32} {x3 : Int32} {τ : ((Int32 × Int32 × Int32) ⊕ (Int32))} (hJ : F_X12_ring_39 s x1 x2 x3 = some τ) (hC : (C_X12_ring_14 N xs s d r (fun τ => r = (some (.int τ), (SH, s)))) τ) : Rn N xs (d + 2) me297 39 [some (.ref 88), some (.int x1), some (.int x2), some (.int x3)] [] (SH, s) r := by
  unfold F_X12_ring_39 at hJ
  refine Rn_sq srt297 24 5 (pc' := 47) (ls' := [some (.ref 88), some (.int x1), some (.int x2), some (.int x3)]) (st' := [(.int ((c8 15) + x3)), (.ref 89)]) (h1 := (SH, s)) rfl ?_
  obtain ⟨h9, hJ⟩ := m_gn hJ
  refine Rn_ev srt297 29 rfl rfl rfl (op_ia sh89 h9 (k := ((c8 15) + x3).toNatClampNeg) rfl) ?_
  extract_lets +onlyGivenNames v10 at hJ
  refine Rn_sq srt297 30 3 (pc' := 14) (ls' := [some (.ref 88), some (.int x1), some (.int (x2 + ci 1)), some (.int v10)]) (st' := []) (h1 := (SH, s)) rfl ?_
  rw [← Option.some.inj hJ] at hC
  exact hC
def F_X12_ring_B14 (s : mG) (x1 : Int32) (x2 : Int32) (x3 : Int32) : Option ((Int32 × Int32 × Int32) ⊕ (Int32)) :=
  if x3 = (ci (-1)) then
    b1 (F_X12_ring_55 s x1 x2 x3) fun τ => some (Sum.inr τ)
  else
    if (s.1 89 112) < x2 then
      b1 (F_X12_ring_55 s x1 x2 x3) fun τ => some (Sum.inr τ)
    else
      if x2 = 0 then
        F_X12_ring_39 s x1 x2 x3
      else
        if x3 = x1 then
          b1 (F_X12_ring_55 s x1 x2 x3) fun τ => some (Sum.inr τ)
        else
          F_X12_ring_39 s x1 x2 x3
set_option maxRecDepth 4000 in
theorem k_X12_ring_B14 {N : Nat} {xs : Nat → Int32} (d : Nat) {r : Option Value × mH} {s : mG} {x1 : Int32} {x2 : Int32} {x3 : Int32} {τ : ((Int32 × Int32 × Int32) ⊕ (Int32))} (hJ : F_X12_ring_B14 s x1 x2 x3 = some τ) (hC : (C_X12_ring_14 N xs s d r (fun τ => r = (some (.int τ), (SH, s)))) τ) : Rn N xs (d + 2) me297 14 [some (.ref 88), some (.int x1), some (.int x2), some (.int x3)] [] (SH, s) r := by
  unfold F_X12_ring_B14 at hJ
  refine Rn_sq srt297 10 3 (pc' := (if x3 = (ci (-1)) then 55 else 19)) (ls' := [some (.ref 88), some (.int x1), some (.int x2), some (.int x3)]) (st' := []) (h1 := (SH, s)) rfl (Rn_if (fun h4 => ?_) (fun h4 => ?_))
  · replace hJ := m_ifp h4 hJ
    obtain ⟨τ1, hJ1, hJ⟩ := m_b1 hJ
    rw [← Option.some.inj hJ] at hC
    exact Rn_weaken (a := [none, some (.int x1), some (.int x2), some (.int x3)]) (b := [some (.ref 88), some (.int x1), some (.int x2), some (.int x3)]) (And.intro rfl (And.intro rfl (And.intro rfl trivial))) rfl (k_X12_ring_55 d hJ1 hC)
  · replace hJ := m_ifn h4 hJ
    refine Rn_sq srt297 13 4 (pc' := 26) (ls' := [some (.ref 88), some (.int x1), some (.int x2), some (.int x3)]) (st' := [(.int (c8 112)), (.ref 89), (.int x2)]) (h1 := (SH, s)) rfl ?_
    refine Rn_ev srt297 17 rfl rfl rfl (op_ia sh89 (by decide) (k := 112) rfl) ?_
    refine Rn_sq srt297 18 1 (pc' := (if (s.1 89 112) < x2 then 55 else 30)) (ls' := [some (.ref 88), some (.int x1), some (.int x2), some (.int x3)]) (st' := []) (h1 := (SH, s)) rfl (Rn_if (fun h7 => ?_) (fun h7 => ?_))
    · replace hJ := m_ifp h7 hJ
      obtain ⟨τ1, hJ1, hJ⟩ := m_b1 hJ
      rw [← Option.some.inj hJ] at hC
      exact Rn_weaken (a := [none, some (.int x1), some (.int x2), some (.int x3)]) (b := [some (.ref 88), some (.int x1), some (.int x2), some (.int x3)]) (And.intro rfl (And.intro rfl (And.intro rfl trivial))) rfl (k_X12_ring_55 d hJ1 hC)
    · replace hJ := m_ifn h7 hJ
      refine Rn_sq srt297 19 2 (pc' := (if x2 = 0 then 39 else 34)) (ls' := [some (.ref 88), some (.int x1), some (.int x2), some (.int x3)]) (st' := []) (h1 := (SH, s)) rfl (Rn_if (fun h8 => ?_) (fun h8 => ?_))
      · replace hJ := m_ifp h8 hJ
        exact (k_X12_ring_39 d hJ hC)
      · replace hJ := m_ifn h8 hJ
        refine Rn_sq srt297 21 3 (pc' := (if x3 = x1 then 55 else 39)) (ls' := [some (.ref 88), some (.int x1), some (.int x2), some (.int x3)]) (st' := []) (h1 := (SH, s)) rfl (Rn_if (fun h11 => ?_) (fun h11 => ?_))
        · replace hJ := m_ifp h11 hJ
          obtain ⟨τ1, hJ1, hJ⟩ := m_b1 hJ
          rw [← Option.some.inj hJ] at hC
          exact Rn_weaken (a := [none, some (.int x1), some (.int x2), some (.int x3)]) (b := [some (.ref 88), some (.int x1), some (.int x2), some (.int x3)]) (And.intro rfl (And.intro rfl (And.intro rfl trivial))) rfl (k_X12_ring_55 d hJ1 hC)
        · replace hJ := m_ifn h11 hJ
          exact (k_X12_ring_39 d hJ hC)
def F_X12_ring_L14 (s : mG) (x1 : Int32) (x2 : Int32) (x3 : Int32) : Option (Int32) := whl (fun (v : (Int32 × Int32 × Int32)) => F_X12_ring_B14 s v.1 v.2.1 v.2.2) (x1, x2, x3)
theorem k_X12_ring_L14 {N : Nat} {xs : Nat → Int32} (d : Nat) {r : Option Value × mH} {s : mG} {x1 : Int32} {x2 : Int32} {x3 : Int32} {τ : (Int32)} (hJ : F_X12_ring_L14 s x1 x2 x3 = some τ) (hC : (fun τ => r = (some (.int τ), (SH, s))) τ) : Rn N xs (d + 2) me297 14 [some (.ref 88), some (.int x1), some (.int x2), some (.int x3)] [] (SH, s) r :=
  whl_link (P := fun (v : (Int32 × Int32 × Int32)) => Rn N xs (d + 2) me297 14 [some (.ref 88), some (.int v.1), some (.int v.2.1), some (.int v.2.2)] [] (SH, s) r) (C := (C_X12_ring_14 N xs s d r (fun τ => r = (some (.int τ), (SH, s))))) (fun v τ h1 h2 => k_X12_ring_B14 d h1 h2) (fun _ h => h) (fun _ h => h) _ _ hJ hC
def F_X12_ring (s : mG) (a1 : Int32) : Option (Int32) :=
  b1 (F_X12_isGuest s a1) fun v2 =>
  if v2 = 0 then
    some (ci (-1))
  else
    F_X12_ring_L14 s a1 (ci 0) a1
set_option maxRecDepth 4000 in
theorem k_X12_ring_r {N : Nat} {xs : Nat → Int32} (d : Nat) {r : Option Value × mH} {s : mG} {a1 : Int32} {τ : (Int32)} (hJ : F_X12_ring s a1 = some τ) (hC : (fun τ => r = (some (.int τ), (SH, s))) τ) : Rn N xs (d + 2) me297 0 [some (.ref 88), some (.int a1), none, none] [] (SH, s) r := by
  unfold F_X12_ring at hJ
  refine Rn_sq srt297 0 2 (pc' := 2) (ls' := [some (.ref 88), some (.int a1), none, none]) (st' := [(.int a1), (.ref 88)]) (h1 := (SH, s)) rfl ?_
  obtain ⟨v2, h1, hJ⟩ := m_b1 hJ
  refine Rn_call srt297 2 rfl rfl rfl ⟨Nat.le_of_ble_eq_true rfl, Nat.le_of_ble_eq_true rfl, rfl, Nat.le_of_ble_eq_true rfl⟩ (k_X12_isGuest (d) h1) (show Rn N xs (d + 2) me297 5 [some (.ref 88), some (.int a1), none, none] [(.int v2)] (SH, s) r from ?_)
  refine Rn_sq srt297 3 1 (pc' := (if v2 = 0 then 8 else 10)) (ls' := [some (.ref 88), some (.int a1), none, none]) (st' := []) (h1 := (SH, s)) rfl (Rn_if (fun h3 => ?_) (fun h3 => ?_))
  · replace hJ := m_ifp h3 hJ
    refine Rn_sq srt297 4 1 (pc' := 9) (ls' := [some (.ref 88), some (.int a1), none, none]) (st' := [(.int (ci (-1)))]) (h1 := (SH, s)) rfl ?_
    rw [← Option.some.inj hJ] at hC
    have hC : r = (some (.int (ci (-1))), (SH, s)) := hC
    subst hC
    exact Rn_ret srt297 5 rfl rfl rfl
  · replace hJ := m_ifn h3 hJ
    refine Rn_sq srt297 6 4 (pc' := 14) (ls' := [some (.ref 88), some (.int a1), some (.int (ci 0)), some (.int a1)]) (st' := []) (h1 := (SH, s)) rfl ?_
    exact (k_X12_ring_L14 d hJ hC)
theorem k_X12_ring {N : Nat} {xs : Nat → Int32} (d : Nat) {s : mG} {a1 : Int32} {τ : (Int32)} (hJ : F_X12_ring s a1 = some τ) : Rn N xs (d + 2) me297 0 [some (.ref 88), some (.int a1), none, none] [] (SH, s) (some (.int τ), (SH, s)) := k_X12_ring_r d hJ rfl
/-! IsHeInModel.ringMany()I -/
theorem srt298 : m_srt mc298 = true := by decide +kernel
def C_X12_ringMany_4 (N : Nat) (xs : Nat → Int32) (s : mG) (d : Nat) (r : Option Value × mH) (C : (Int32) → Prop) : ((Int32 × Int32) ⊕ (Int32)) → Prop
  | .inl v => Rn N xs (d + 1) me298 4 [some (.ref 88), some (.int v.1), some (.int v.2)] [] (SH, s) r
  | .inr a => C a
def F_X12_ringMany_55 (s : mG) (x2 : Int32) (y0 : Int32) (y1 : Int32) : Option ((Int32 × Int32) ⊕ (Int32)) :=
  some (Sum.inl ((y0 + y1), (x2 + ci 1)))
set_option maxRecDepth 4000 in
theorem k_X12_ringMany_55 {N : Nat} {xs : Nat → Int32} (d : Nat) {r : Option Value × mH} {s : mG} {x2 : Int32} {y0 : Int32} {y1 : Int32} {τ : ((Int32 × Int32) ⊕ (Int32))} (hJ : F_X12_ringMany_55 s x2 y0 y1 = some τ) (hC : (C_X12_ringMany_4 N xs s d r (fun τ => r = (some (.int τ), (SH, s)))) τ) : Rn N xs (d + 1) me298 55 [some (.ref 88), none, some (.int x2)] [(.int y1), (.int y0)] (SH, s) r := by
  unfold F_X12_ringMany_55 at hJ
  refine Rn_sq srt298 34 4 (pc' := 4) (ls' := [some (.ref 88), some (.int (y0 + y1)), some (.int (x2 + ci 1))]) (st' := []) (h1 := (SH, s)) rfl ?_
  rw [← Option.some.inj hJ] at hC
  exact hC
def F_X12_ringMany_54 (s : mG) (x2 : Int32) (y0 : Int32) : Option ((Int32 × Int32) ⊕ (Int32)) :=
  F_X12_ringMany_55 s x2 y0 (ci 0)
set_option maxRecDepth 4000 in
theorem k_X12_ringMany_54 {N : Nat} {xs : Nat → Int32} (d : Nat) {r : Option Value × mH} {s : mG} {x2 : Int32} {y0 : Int32} {τ : ((Int32 × Int32) ⊕ (Int32))} (hJ : F_X12_ringMany_54 s x2 y0 = some τ) (hC : (C_X12_ringMany_4 N xs s d r (fun τ => r = (some (.int τ), (SH, s)))) τ) : Rn N xs (d + 1) me298 54 [some (.ref 88), none, some (.int x2)] [(.int y0)] (SH, s) r := by
  unfold F_X12_ringMany_54 at hJ
  refine Rn_sq srt298 33 1 (pc' := 55) (ls' := [some (.ref 88), none, some (.int x2)]) (st' := [(.int (ci 0)), (.int y0)]) (h1 := (SH, s)) rfl ?_
  exact (k_X12_ringMany_55 d hJ hC)
def F_X12_ringMany_B4 (s : mG) (x1 : Int32) (x2 : Int32) : Option ((Int32 × Int32) ⊕ (Int32)) :=
  if (s.1 89 112) ≤ x2 then
    some (Sum.inr x1)
  else
    if ((c8 15) + x2) < 0 ∨ 1894 ≤ ((c8 15) + x2).toNatClampNeg then none else
    if (s.1 89 ((c8 15) + x2).toNatClampNeg) = (ci (-1)) then
      F_X12_ringMany_54 s x2 x1
    else
      if ((c8 15) + x2) < 0 ∨ 1894 ≤ ((c8 15) + x2).toNatClampNeg then none else
      if (s.1 89 ((c8 15) + x2).toNatClampNeg) = x2 then
        F_X12_ringMany_54 s x2 x1
      else
        b1 (F_X12_leadsRing s x2) fun v7 =>
        if v7 = 0 then
          F_X12_ringMany_54 s x2 x1
        else
          F_X12_ringMany_55 s x2 x1 (ci 1)
set_option maxRecDepth 4000 in
theorem k_X12_ringMany_B4 {N : Nat} {xs : Nat → Int32} (d : Nat) {r : Option Value × mH} {s : mG} {x1 : Int32} {x2 : Int32} {τ : ((Int32 × Int32) ⊕ (Int32))} (hJ : F_X12_ringMany_B4 s x1 x2 = some τ) (hC : (C_X12_ringMany_4 N xs s d r (fun τ => r = (some (.int τ), (SH, s)))) τ) : Rn N xs (d + 1) me298 4 [some (.ref 88), some (.int x1), some (.int x2)] [] (SH, s) r := by
  unfold F_X12_ringMany_B4 at hJ
  refine Rn_sq srt298 4 4 (pc' := 11) (ls' := [some (.ref 88), some (.int x1), some (.int x2)]) (st' := [(.int (c8 112)), (.ref 89), (.int x2)]) (h1 := (SH, s)) rfl ?_
  refine Rn_ev srt298 8 rfl rfl rfl (op_ia sh89 (by decide) (k := 112) rfl) ?_
  refine Rn_sq srt298 9 1 (pc' := (if (s.1 89 112) ≤ x2 then 63 else 15)) (ls' := [some (.ref 88), some (.int x1), some (.int x2)]) (st' := []) (h1 := (SH, s)) rfl (Rn_if (fun h1 => ?_) (fun h1 => ?_))
  · replace hJ := m_ifp h1 hJ
    refine Rn_sq srt298 38 1 (pc' := 64) (ls' := [some (.ref 88), some (.int x1), some (.int x2)]) (st' := [(.int x1)]) (h1 := (SH, s)) rfl ?_
    rw [← Option.some.inj hJ] at hC
    have hC : r = (some (.int x1), (SH, s)) := hC
    subst hC
    exact Rn_ret srt298 39 rfl rfl rfl
  · replace hJ := m_ifn h1 hJ
    refine Rn_sq srt298 10 6 (pc' := 24) (ls' := [some (.ref 88), some (.int x1), some (.int x2)]) (st' := [(.int ((c8 15) + x2)), (.ref 89), (.int x1)]) (h1 := (SH, s)) rfl ?_
    obtain ⟨h2, hJ⟩ := m_gn hJ
    refine Rn_ev srt298 16 rfl rfl rfl (op_ia sh89 h2 (k := ((c8 15) + x2).toNatClampNeg) rfl) ?_
    refine Rn_sq srt298 17 2 (pc' := (if (s.1 89 ((c8 15) + x2).toNatClampNeg) = (ci (-1)) then 54 else 29)) (ls' := [some (.ref 88), some (.int x1), some (.int x2)]) (st' := [(.int x1)]) (h1 := (SH, s)) rfl (Rn_if (fun h3 => ?_) (fun h3 => ?_))
    · replace hJ := m_ifp h3 hJ
      exact Rn_weaken (a := [some (.ref 88), none, some (.int x2)]) (b := [some (.ref 88), some (.int x1), some (.int x2)]) (And.intro rfl (And.intro rfl trivial)) rfl (k_X12_ringMany_54 d hJ hC)
    · replace hJ := m_ifn h3 hJ
      refine Rn_sq srt298 19 5 (pc' := 37) (ls' := [some (.ref 88), some (.int x1), some (.int x2)]) (st' := [(.int ((c8 15) + x2)), (.ref 89), (.int x1)]) (h1 := (SH, s)) rfl ?_
      obtain ⟨h4, hJ⟩ := m_gn hJ
      refine Rn_ev srt298 24 rfl rfl rfl (op_ia sh89 h4 (k := ((c8 15) + x2).toNatClampNeg) rfl) ?_
      refine Rn_sq srt298 25 2 (pc' := (if (s.1 89 ((c8 15) + x2).toNatClampNeg) = x2 then 54 else 42)) (ls' := [some (.ref 88), some (.int x1), some (.int x2)]) (st' := [(.int x1)]) (h1 := (SH, s)) rfl (Rn_if (fun h5 => ?_) (fun h5 => ?_))
      · replace hJ := m_ifp h5 hJ
        exact Rn_weaken (a := [some (.ref 88), none, some (.int x2)]) (b := [some (.ref 88), some (.int x1), some (.int x2)]) (And.intro rfl (And.intro rfl trivial)) rfl (k_X12_ringMany_54 d hJ hC)
      · replace hJ := m_ifn h5 hJ
        refine Rn_sq srt298 27 2 (pc' := 44) (ls' := [some (.ref 88), some (.int x1), some (.int x2)]) (st' := [(.int x2), (.ref 88), (.int x1)]) (h1 := (SH, s)) rfl ?_
        obtain ⟨v7, h6, hJ⟩ := m_b1 hJ
        refine Rn_call srt298 29 rfl rfl rfl ⟨Nat.le_of_ble_eq_true rfl, Nat.le_of_ble_eq_true rfl, rfl, Nat.le_of_ble_eq_true rfl⟩ (k_X12_leadsRing (d) h6) (show Rn N xs (d + 1) me298 47 [some (.ref 88), some (.int x1), some (.int x2)] [(.int v7), (.int x1)] (SH, s) r from ?_)
        refine Rn_sq srt298 30 1 (pc' := (if v7 = 0 then 54 else 50)) (ls' := [some (.ref 88), some (.int x1), some (.int x2)]) (st' := [(.int x1)]) (h1 := (SH, s)) rfl (Rn_if (fun h8 => ?_) (fun h8 => ?_))
        · replace hJ := m_ifp h8 hJ
          exact Rn_weaken (a := [some (.ref 88), none, some (.int x2)]) (b := [some (.ref 88), some (.int x1), some (.int x2)]) (And.intro rfl (And.intro rfl trivial)) rfl (k_X12_ringMany_54 d hJ hC)
        · replace hJ := m_ifn h8 hJ
          refine Rn_sq srt298 31 2 (pc' := 55) (ls' := [some (.ref 88), some (.int x1), some (.int x2)]) (st' := [(.int (ci 1)), (.int x1)]) (h1 := (SH, s)) rfl ?_
          exact Rn_weaken (a := [some (.ref 88), none, some (.int x2)]) (b := [some (.ref 88), some (.int x1), some (.int x2)]) (And.intro rfl (And.intro rfl trivial)) rfl (k_X12_ringMany_55 d hJ hC)
def F_X12_ringMany_L4 (s : mG) (x1 : Int32) (x2 : Int32) : Option (Int32) := whl (fun (v : (Int32 × Int32)) => F_X12_ringMany_B4 s v.1 v.2) (x1, x2)
theorem k_X12_ringMany_L4 {N : Nat} {xs : Nat → Int32} (d : Nat) {r : Option Value × mH} {s : mG} {x1 : Int32} {x2 : Int32} {τ : (Int32)} (hJ : F_X12_ringMany_L4 s x1 x2 = some τ) (hC : (fun τ => r = (some (.int τ), (SH, s))) τ) : Rn N xs (d + 1) me298 4 [some (.ref 88), some (.int x1), some (.int x2)] [] (SH, s) r :=
  whl_link (P := fun (v : (Int32 × Int32)) => Rn N xs (d + 1) me298 4 [some (.ref 88), some (.int v.1), some (.int v.2)] [] (SH, s) r) (C := (C_X12_ringMany_4 N xs s d r (fun τ => r = (some (.int τ), (SH, s))))) (fun v τ h1 h2 => k_X12_ringMany_B4 d h1 h2) (fun _ h => h) (fun _ h => h) _ _ hJ hC
def F_X12_ringMany (s : mG) : Option (Int32) :=
  F_X12_ringMany_L4 s (ci 0) (ci 0)
set_option maxRecDepth 4000 in
theorem k_X12_ringMany_r {N : Nat} {xs : Nat → Int32} (d : Nat) {r : Option Value × mH} {s : mG} {τ : (Int32)} (hJ : F_X12_ringMany s = some τ) (hC : (fun τ => r = (some (.int τ), (SH, s))) τ) : Rn N xs (d + 1) me298 0 [some (.ref 88), none, none] [] (SH, s) r := by
  unfold F_X12_ringMany at hJ
  refine Rn_sq srt298 0 4 (pc' := 4) (ls' := [some (.ref 88), some (.int (ci 0)), some (.int (ci 0))]) (st' := []) (h1 := (SH, s)) rfl ?_
  exact (k_X12_ringMany_L4 d hJ hC)
theorem k_X12_ringMany {N : Nat} {xs : Nat → Int32} (d : Nat) {s : mG} {τ : (Int32)} (hJ : F_X12_ringMany s = some τ) : Rn N xs (d + 1) me298 0 [some (.ref 88), none, none] [] (SH, s) (some (.int τ), (SH, s)) := k_X12_ringMany_r d hJ rfl
/-! IsHeInModel.swapped(I)I -/
theorem srt299 : m_srt mc299 = true := by decide +kernel
def F_X12_swapped (s : mG) (a1 : Int32) : Option (Int32) :=
  if a1 = ci 0 then
    b1 (F_X12_swappedSet s) fun v3 =>
    some v3
  else
  if a1 = ci 1 then
    b1 (F_X12_swappedSet s) fun v6 =>
    b1 (F_X12_count s v6) fun v8 =>
    b1 (F_X12_ringMany s) fun v10 =>
    some (v8 + v10)
  else
  if a1 = ci 2 then
    b1 (F_X12_ringMany s) fun v13 =>
    some v13
  else
  some (ci (-1))
set_option maxRecDepth 4000 in
theorem k_X12_swapped_r {N : Nat} {xs : Nat → Int32} (d : Nat) {r : Option Value × mH} {s : mG} {a1 : Int32} {τ : (Int32)} (hJ : F_X12_swapped s a1 = some τ) (hC : (fun τ => r = (some (.int τ), (SH, s))) τ) : Rn N xs (d + 2) me299 0 [some (.ref 88), some (.int a1)] [] (SH, s) r := by
  unfold F_X12_swapped at hJ
  refine Rn_sq srt299 0 1 (pc' := 1) (ls' := [some (.ref 88), some (.int a1)]) (st' := [(.int a1)]) (h1 := (SH, s)) rfl ?_
  by_cases h1 : a1 = ci 0
  · replace hJ := m_ifp h1 hJ
    refine Rn_ev srt299 1 rfl rfl rfl (op_sw h1 (show _ = some (28, _) from rfl)) ?_
    refine Rn_sq srt299 2 1 (pc' := 29) (ls' := [some (.ref 88), some (.int a1)]) (st' := [(.ref 88)]) (h1 := (SH, s)) rfl ?_
    obtain ⟨v3, h2, hJ⟩ := m_b1 hJ
    refine Rn_call srt299 3 rfl rfl rfl ⟨Nat.le_of_ble_eq_true rfl, Nat.le_of_ble_eq_true rfl, rfl, Nat.le_of_ble_eq_true rfl⟩ (k_X12_swappedSet (d + 1) h2) (show Rn N xs (d + 2) me299 32 [some (.ref 88), some (.int a1)] [(.int v3)] (SH, s) r from ?_)
    rw [← Option.some.inj hJ] at hC
    have hC : r = (some (.int v3), (SH, s)) := hC
    subst hC
    exact Rn_ret srt299 4 rfl rfl rfl
  replace hJ := m_ifn h1 hJ
  by_cases h4 : a1 = ci 1
  · replace hJ := m_ifp h4 hJ
    refine Rn_ev srt299 1 rfl rfl rfl (op_sw h4 (show _ = some (33, _) from rfl)) ?_
    refine Rn_sq srt299 5 1 (pc' := 34) (ls' := [some (.ref 88), some (.int a1)]) (st' := [(.ref 88)]) (h1 := (SH, s)) rfl ?_
    obtain ⟨v6, h5, hJ⟩ := m_b1 hJ
    refine Rn_call srt299 6 rfl rfl rfl ⟨Nat.le_of_ble_eq_true rfl, Nat.le_of_ble_eq_true rfl, rfl, Nat.le_of_ble_eq_true rfl⟩ (k_X12_swappedSet (d + 1) h5) (show Rn N xs (d + 2) me299 37 [some (.ref 88), some (.int a1)] [(.int v6)] (SH, s) r from ?_)
    obtain ⟨v8, h7, hJ⟩ := m_b1 hJ
    refine Rn_call srt299 7 rfl rfl rfl ⟨Nat.le_of_ble_eq_true rfl, Nat.le_of_ble_eq_true rfl, rfl, Nat.le_of_ble_eq_true rfl⟩ (k_X12_count (d + 1) h7) (show Rn N xs (d + 2) me299 40 [some (.ref 88), some (.int a1)] [(.int v8)] (SH, s) r from ?_)
    refine Rn_sq srt299 8 1 (pc' := 41) (ls' := [some (.ref 88), some (.int a1)]) (st' := [(.ref 88), (.int v8)]) (h1 := (SH, s)) rfl ?_
    obtain ⟨v10, h9, hJ⟩ := m_b1 hJ
    refine Rn_call srt299 9 rfl rfl rfl ⟨Nat.le_of_ble_eq_true rfl, Nat.le_of_ble_eq_true rfl, rfl, Nat.le_of_ble_eq_true rfl⟩ (k_X12_ringMany (d) h9) (show Rn N xs (d + 2) me299 44 [some (.ref 88), some (.int a1)] [(.int v10), (.int v8)] (SH, s) r from ?_)
    refine Rn_sq srt299 10 1 (pc' := 45) (ls' := [some (.ref 88), some (.int a1)]) (st' := [(.int (v8 + v10))]) (h1 := (SH, s)) rfl ?_
    rw [← Option.some.inj hJ] at hC
    have hC : r = (some (.int (v8 + v10)), (SH, s)) := hC
    subst hC
    exact Rn_ret srt299 11 rfl rfl rfl
  replace hJ := m_ifn h4 hJ
  by_cases h11 : a1 = ci 2
  · replace hJ := m_ifp h11 hJ
    refine Rn_ev srt299 1 rfl rfl rfl (op_sw h11 (show _ = some (46, _) from rfl)) ?_
    refine Rn_sq srt299 12 1 (pc' := 47) (ls' := [some (.ref 88), some (.int a1)]) (st' := [(.ref 88)]) (h1 := (SH, s)) rfl ?_
    obtain ⟨v13, h12, hJ⟩ := m_b1 hJ
    refine Rn_call srt299 13 rfl rfl rfl ⟨Nat.le_of_ble_eq_true rfl, Nat.le_of_ble_eq_true rfl, rfl, Nat.le_of_ble_eq_true rfl⟩ (k_X12_ringMany (d) h12) (show Rn N xs (d + 2) me299 50 [some (.ref 88), some (.int a1)] [(.int v13)] (SH, s) r from ?_)
    rw [← Option.some.inj hJ] at hC
    have hC : r = (some (.int v13), (SH, s)) := hC
    subst hC
    exact Rn_ret srt299 14 rfl rfl rfl
  replace hJ := m_ifn h11 hJ
  refine Rn_ev srt299 1 rfl rfl rfl (op_swd (tg := 51) (sw_out (by decide) (by decide) (by intro v hv1 hv2; rcases (show v = 0 ∨ v = 1 ∨ v = 2 by omega) with rfl | rfl | rfl <;> assumption)) rfl) ?_
  refine Rn_sq srt299 15 1 (pc' := 52) (ls' := [some (.ref 88), some (.int a1)]) (st' := [(.int (ci (-1)))]) (h1 := (SH, s)) rfl ?_
  rw [← Option.some.inj hJ] at hC
  have hC : r = (some (.int (ci (-1))), (SH, s)) := hC
  subst hC
  exact Rn_ret srt299 16 rfl rfl rfl
theorem k_X12_swapped {N : Nat} {xs : Nat → Int32} (d : Nat) {s : mG} {a1 : Int32} {τ : (Int32)} (hJ : F_X12_swapped s a1 = some τ) : Rn N xs (d + 2) me299 0 [some (.ref 88), some (.int a1)] [] (SH, s) (some (.int τ), (SH, s)) := k_X12_swapped_r d hJ rfl
/-! IsHeInModel.laysFloors()V -/
theorem srt300 : m_srt mc300 = true := by decide +kernel
def C_X12_laysFloors_2 (N : Nat) (xs : Nat → Int32) (d : Nat) (r : Option Value × mH) (C : (mG) → Prop) : ((Int32 × mG) ⊕ (mG)) → Prop
  | .inl v => Rn N xs (d + 6) me300 2 [some (.ref 88), some (.int v.1)] [] (SH, v.2) r
  | .inr a => C a
def C_X12_laysFloors_22 (N : Nat) (xs : Nat → Int32) (d : Nat) (r : Option Value × mH) (C : (mG) → Prop) : ((Int32 × mG) ⊕ (mG)) → Prop
  | .inl v => Rn N xs (d + 6) me300 22 [some (.ref 88), some (.int v.1)] [] (SH, v.2) r
  | .inr a => C a
def F_X12_laysFloors_B22 (x1 : Int32) (s : mG) : Option ((Int32 × mG) ⊕ (mG)) :=
  if (s.1 89 112) ≤ x1 then
    some (Sum.inr s)
  else
    if ((c8 119) + x1) < 0 ∨ 1894 ≤ ((c8 119) + x1).toNatClampNeg then none else
    let v4 : Int32 := (s.1 89 ((c8 119) + x1).toNatClampNeg)
    if v4 < 0 ∨ 4 ≤ v4.toNatClampNeg then none else
    b2 (F_X12_sureOf x1 s) fun v8 s7 =>
    if v4 < 0 ∨ 4 ≤ v4.toNatClampNeg then none else
    let s10 : mG := (s7.1, muL s7.2 100 v4.toNatClampNeg ((s.2 100 v4.toNatClampNeg) + v8))
    some (Sum.inl ((x1 + ci 1), s10))
set_option maxRecDepth 4000 in
theorem k_X12_laysFloors_B22 {N : Nat} {xs : Nat → Int32} (d : Nat) {r : Option Value × mH} {s : mG} {x1 : Int32} {τ : ((Int32 × mG) ⊕ (mG))} (hJ : F_X12_laysFloors_B22 x1 s = some τ) (hC : (C_X12_laysFloors_22 N xs d r (fun τ => r = (none, (SH, τ)))) τ) : Rn N xs (d + 6) me300 22 [some (.ref 88), some (.int x1)] [] (SH, s) r := by
  unfold F_X12_laysFloors_B22 at hJ
  refine Rn_sq srt300 14 4 (pc' := 29) (ls' := [some (.ref 88), some (.int x1)]) (st' := [(.int (c8 112)), (.ref 89), (.int x1)]) (h1 := (SH, s)) rfl ?_
  refine Rn_ev srt300 18 rfl rfl rfl (op_ia sh89 (by decide) (k := 112) rfl) ?_
  refine Rn_sq srt300 19 1 (pc' := (if (s.1 89 112) ≤ x1 then 61 else 33)) (ls' := [some (.ref 88), some (.int x1)]) (st' := []) (h1 := (SH, s)) rfl (Rn_if (fun h2 => ?_) (fun h2 => ?_))
  · replace hJ := m_ifp h2 hJ
    rw [← Option.some.inj hJ] at hC
    have hC : r = (none, (SH, s)) := hC
    subst hC
    exact Rn_ret srt300 37 rfl rfl rfl
  · replace hJ := m_ifn h2 hJ
    refine Rn_sq srt300 20 7 (pc' := 45) (ls' := [some (.ref 88), some (.int x1)]) (st' := [(.int ((c8 119) + x1)), (.ref 89), (.ref 100)]) (h1 := (SH, s)) rfl ?_
    obtain ⟨h3, hJ⟩ := m_gn hJ
    refine Rn_ev srt300 27 rfl rfl rfl (op_ia sh89 h3 (k := ((c8 119) + x1).toNatClampNeg) rfl) ?_
    extract_lets +onlyGivenNames v4 at hJ
    refine Rn_sq srt300 28 1 (pc' := 47) (ls' := [some (.ref 88), some (.int x1)]) (st' := [(.int v4), (.ref 100), (.int v4), (.ref 100)]) (h1 := (SH, s)) rfl ?_
    obtain ⟨h5, hJ⟩ := m_gn hJ
    refine Rn_ev srt300 29 rfl rfl rfl (op_la sh100 h5 (k := v4.toNatClampNeg) rfl) ?_
    refine Rn_sq srt300 30 2 (pc' := 50) (ls' := [some (.ref 88), some (.int x1)]) (st' := [(.int x1), (.ref 88), (.long (s.2 100 v4.toNatClampNeg)), (.int v4), (.ref 100)]) (h1 := (SH, s)) rfl ?_
    obtain ⟨v8, s7, h6, hJ⟩ := m_b2 hJ
    refine Rn_call srt300 32 rfl rfl rfl ⟨Nat.le_of_ble_eq_true rfl, Nat.le_of_ble_eq_true rfl, rfl, Nat.le_of_ble_eq_true rfl⟩ (k_X12_sureOf (d) h6) (show Rn N xs (d + 6) me300 53 [some (.ref 88), some (.int x1)] [(.long v8), (.long (s.2 100 v4.toNatClampNeg)), (.int v4), (.ref 100)] (SH, s7) r from ?_)
    refine Rn_sq srt300 33 1 (pc' := 54) (ls' := [some (.ref 88), some (.int x1)]) (st' := [(.long ((s.2 100 v4.toNatClampNeg) + v8)), (.int v4), (.ref 100)]) (h1 := (SH, s7)) rfl ?_
    obtain ⟨h9, hJ⟩ := m_gn hJ
    extract_lets +onlyGivenNames s10 at hJ
    refine Rn_ev srt300 34 rfl rfl rfl (op_las sh100 h9 (k := v4.toNatClampNeg) rfl) ?_
    refine Rn_sq srt300 35 2 (pc' := 22) (ls' := [some (.ref 88), some (.int (x1 + ci 1))]) (st' := []) (h1 := (SH, s10)) rfl ?_
    rw [← Option.some.inj hJ] at hC
    exact hC
def F_X12_laysFloors_L22 (x1 : Int32) (s : mG) : Option (mG) := whl (fun (v : (Int32 × mG)) => F_X12_laysFloors_B22 v.1 v.2) (x1, s)
theorem k_X12_laysFloors_L22 {N : Nat} {xs : Nat → Int32} (d : Nat) {r : Option Value × mH} {s : mG} {x1 : Int32} {τ : (mG)} (hJ : F_X12_laysFloors_L22 x1 s = some τ) (hC : (fun τ => r = (none, (SH, τ))) τ) : Rn N xs (d + 6) me300 22 [some (.ref 88), some (.int x1)] [] (SH, s) r :=
  whl_link (P := fun (v : (Int32 × mG)) => Rn N xs (d + 6) me300 22 [some (.ref 88), some (.int v.1)] [] (SH, v.2) r) (C := (C_X12_laysFloors_22 N xs d r (fun τ => r = (none, (SH, τ))))) (fun v τ h1 h2 => k_X12_laysFloors_B22 d h1 h2) (fun _ h => h) (fun _ h => h) _ _ hJ hC
def F_X12_laysFloors_B2 (x1 : Int32) (s : mG) : Option ((Int32 × mG) ⊕ (mG)) :=
  if (ci 4) ≤ x1 then
    b1 (F_X12_laysFloors_L22 (ci 0) s) fun τ => some (Sum.inr τ)
  else
    if x1 < 0 ∨ 4 ≤ x1.toNatClampNeg then none else
    let s12 : mG := (s.1, muL s.2 100 x1.toNatClampNeg (cz 0))
    some (Sum.inl ((x1 + ci 1), s12))
set_option maxRecDepth 4000 in
theorem k_X12_laysFloors_B2 {N : Nat} {xs : Nat → Int32} (d : Nat) {r : Option Value × mH} {s : mG} {x1 : Int32} {τ : ((Int32 × mG) ⊕ (mG))} (hJ : F_X12_laysFloors_B2 x1 s = some τ) (hC : (C_X12_laysFloors_2 N xs d r (fun τ => r = (none, (SH, τ)))) τ) : Rn N xs (d + 6) me300 2 [some (.ref 88), some (.int x1)] [] (SH, s) r := by
  unfold F_X12_laysFloors_B2 at hJ
  refine Rn_sq srt300 2 3 (pc' := (if (ci 4) ≤ x1 then 20 else 7)) (ls' := [some (.ref 88), some (.int x1)]) (st' := []) (h1 := (SH, s)) rfl (Rn_if (fun h1 => ?_) (fun h1 => ?_))
  · replace hJ := m_ifp h1 hJ
    refine Rn_sq srt300 12 2 (pc' := 22) (ls' := [some (.ref 88), some (.int (ci 0))]) (st' := []) (h1 := (SH, s)) rfl ?_
    obtain ⟨τ1, hJ1, hJ⟩ := m_b1 hJ
    rw [← Option.some.inj hJ] at hC
    exact (k_X12_laysFloors_L22 d hJ1 hC)
  · replace hJ := m_ifn h1 hJ
    refine Rn_sq srt300 5 4 (pc' := 13) (ls' := [some (.ref 88), some (.int x1)]) (st' := [(.long (cz 0)), (.int x1), (.ref 100)]) (h1 := (SH, s)) rfl ?_
    obtain ⟨h11, hJ⟩ := m_gn hJ
    extract_lets +onlyGivenNames s12 at hJ
    refine Rn_ev srt300 9 rfl rfl rfl (op_las sh100 h11 (k := x1.toNatClampNeg) rfl) ?_
    refine Rn_sq srt300 10 2 (pc' := 2) (ls' := [some (.ref 88), some (.int (x1 + ci 1))]) (st' := []) (h1 := (SH, s12)) rfl ?_
    rw [← Option.some.inj hJ] at hC
    exact hC
def F_X12_laysFloors_L2 (x1 : Int32) (s : mG) : Option (mG) := whl (fun (v : (Int32 × mG)) => F_X12_laysFloors_B2 v.1 v.2) (x1, s)
theorem k_X12_laysFloors_L2 {N : Nat} {xs : Nat → Int32} (d : Nat) {r : Option Value × mH} {s : mG} {x1 : Int32} {τ : (mG)} (hJ : F_X12_laysFloors_L2 x1 s = some τ) (hC : (fun τ => r = (none, (SH, τ))) τ) : Rn N xs (d + 6) me300 2 [some (.ref 88), some (.int x1)] [] (SH, s) r :=
  whl_link (P := fun (v : (Int32 × mG)) => Rn N xs (d + 6) me300 2 [some (.ref 88), some (.int v.1)] [] (SH, v.2) r) (C := (C_X12_laysFloors_2 N xs d r (fun τ => r = (none, (SH, τ))))) (fun v τ h1 h2 => k_X12_laysFloors_B2 d h1 h2) (fun _ h => h) (fun _ h => h) _ _ hJ hC
def F_X12_laysFloors (s : mG) : Option (mG) :=
  F_X12_laysFloors_L2 (ci 0) s
set_option maxRecDepth 4000 in
theorem k_X12_laysFloors_r {N : Nat} {xs : Nat → Int32} (d : Nat) {r : Option Value × mH} {s : mG} {τ : (mG)} (hJ : F_X12_laysFloors s = some τ) (hC : (fun τ => r = (none, (SH, τ))) τ) : Rn N xs (d + 6) me300 0 [some (.ref 88), none] [] (SH, s) r := by
  unfold F_X12_laysFloors at hJ
  refine Rn_sq srt300 0 2 (pc' := 2) (ls' := [some (.ref 88), some (.int (ci 0))]) (st' := []) (h1 := (SH, s)) rfl ?_
  exact (k_X12_laysFloors_L2 d hJ hC)
theorem k_X12_laysFloors {N : Nat} {xs : Nat → Int32} (d : Nat) {s : mG} {τ : (mG)} (hJ : F_X12_laysFloors s = some τ) : Rn N xs (d + 6) me300 0 [some (.ref 88), none] [] (SH, s) (none, (SH, τ)) := k_X12_laysFloors_r d hJ rfl
/-! IsHeInModel.searches(IIIJ)V -/
theorem srt301 : m_srt mc301 = true := by decide +kernel
def C_X12_searches_53 (N : Nat) (xs : Nat → Int32) (rec : Int32 → Int32 → Int32 → Int64 → mG → Option (mG)) (d : Nat) (r : Option Value × mH) (C : (mG) → Prop) : ((Int32 × Int32 × Int32 × Int64 × Int32 × mG) ⊕ (mG)) → Prop
  | .inl v => Rn N xs (d + 1) me301 53 [some (.ref 88), some (.int v.1), some (.int v.2.1), some (.int v.2.2.1), some (.long v.2.2.2.1), none, some (.int v.2.2.2.2.1), none, none] [] (SH, v.2.2.2.2.2) r
  | .inr a => C a
def C_X12_searches_65 (N : Nat) (xs : Nat → Int32) (rec : Int32 → Int32 → Int32 → Int64 → mG → Option (mG)) (d : Nat) (r : Option Value × mH) (C : ((Int32 × Int32 × Int32 × Int64 × Int32 × mG) ⊕ (mG)) → Prop) : ((Int32 × Int32 × Int32 × Int64 × Int32 × Int32 × Int32 × mG) ⊕ ((Int32 × Int32 × Int32 × Int64 × Int32 × mG) ⊕ (mG))) → Prop
  | .inl v => Rn N xs (d + 1) me301 65 [some (.ref 88), some (.int v.1), some (.int v.2.1), some (.int v.2.2.1), some (.long v.2.2.2.1), none, some (.int v.2.2.2.2.1), some (.int v.2.2.2.2.2.1), some (.int v.2.2.2.2.2.2.1)] [] (SH, v.2.2.2.2.2.2.2) r
  | .inr a => C a
def F_X12_searches_169 (rec : Int32 → Int32 → Int32 → Int64 → mG → Option (mG)) (x1 : Int32) (x2 : Int32) (x3 : Int32) (x4 : Int64) (x6 : Int32) (s : mG) : Option ((Int32 × Int32 × Int32 × Int64 × Int32 × mG) ⊕ (mG)) :=
  some (Sum.inl (x1, x2, x3, x4, (x6 + ci 1), s))
set_option maxRecDepth 4000 in
theorem k_X12_searches_169 {N : Nat} {xs : Nat → Int32} (rec : Int32 → Int32 → Int32 → Int64 → mG → Option (mG)) (d : Nat) (hrec : ∀ (b0 : Int32) (b1 : Int32) (b2 : Int32) (b3 : Int64) (s : mG) (τ : mG), rec b0 b1 b2 b3 s = some τ → Rn N xs d me301 0 [some (.ref 88), some (.int b0), some (.int b1), some (.int b2), some (.long b3), none, none, none, none] [] (SH, s) (none, (SH, τ))) {r : Option Value × mH} {s : mG} {x1 : Int32} {x2 : Int32} {x3 : Int32} {x4 : Int64} {x6 : Int32} {τ : ((Int32 × Int32 × Int32 × Int64 × Int32 × mG) ⊕ (mG))} (hJ : F_X12_searches_169 rec x1 x2 x3 x4 x6 s = some τ) (hC : (C_X12_searches_53 N xs rec d r (fun τ => r = (none, (SH, τ)))) τ) : Rn N xs (d + 1) me301 169 [some (.ref 88), some (.int x1), some (.int x2), some (.int x3), some (.long x4), none, some (.int x6), none, none] [] (SH, s) r := by
  unfold F_X12_searches_169 at hJ
  refine Rn_sq srt301 93 2 (pc' := 53) (ls' := [some (.ref 88), some (.int x1), some (.int x2), some (.int x3), some (.long x4), none, some (.int (x6 + ci 1)), none, none]) (st' := []) (h1 := (SH, s)) rfl ?_
  rw [← Option.some.inj hJ] at hC
  exact hC
def F_X12_searches_120 (rec : Int32 → Int32 → Int32 → Int64 → mG → Option (mG)) (x1 : Int32) (x2 : Int32) (x3 : Int32) (x4 : Int64) (x6 : Int32) (x7 : Int32) (y0 : Int32) (y1 : Int32) (y2 : Int32) (s : mG) : Option ((Int32 × Int32 × Int32 × Int64 × Int32 × mG) ⊕ (mG)) :=
  if x7 = 0 then
    if (y0 + (y1 * y2)) ≤ x3 then
      if x1 < 0 ∨ 4 ≤ x1.toNatClampNeg then none else
      let s8 : mG := (mu s.1 101 x1.toNatClampNeg x6, s.2)
      if x6 < 0 ∨ 4 ≤ x6.toNatClampNeg then none else
      b1 (rec (x1 + (ci 1)) x6 (x3 - (y0 + (y1 * y2))) (x4 + (s8.2 100 x6.toNatClampNeg)) s8) fun s11 =>
      F_X12_searches_169 rec x1 x2 x3 x4 x6 s11
    else
      F_X12_searches_169 rec x1 x2 x3 x4 x6 s
  else
    F_X12_searches_169 rec x1 x2 x3 x4 x6 s
set_option maxRecDepth 4000 in
theorem k_X12_searches_120 {N : Nat} {xs : Nat → Int32} (rec : Int32 → Int32 → Int32 → Int64 → mG → Option (mG)) (d : Nat) (hrec : ∀ (b0 : Int32) (b1 : Int32) (b2 : Int32) (b3 : Int64) (s : mG) (τ : mG), rec b0 b1 b2 b3 s = some τ → Rn N xs d me301 0 [some (.ref 88), some (.int b0), some (.int b1), some (.int b2), some (.long b3), none, none, none, none] [] (SH, s) (none, (SH, τ))) {r : Option Value × mH} {s : mG} {x1 : Int32} {x2 : Int32} {x3 : Int32} {x4 : Int64} {x6 : Int32} {x7 : Int32} {y0 : Int32} {y1 : Int32} {y2 : Int32} {τ : ((Int32 × Int32 × Int32 × Int64 × Int32 × mG) ⊕ (mG))} (hJ : F_X12_searches_120 rec x1 x2 x3 x4 x6 x7 y0 y1 y2 s = some τ) (hC : (C_X12_searches_53 N xs rec d r (fun τ => r = (none, (SH, τ)))) τ) : Rn N xs (d + 1) me301 120 [some (.ref 88), some (.int x1), some (.int x2), some (.int x3), some (.long x4), none, some (.int x6), some (.int x7), none] [(.int y2), (.int y1), (.int y0)] (SH, s) r := by
  unfold F_X12_searches_120 at hJ
  refine Rn_sq srt301 64 5 (pc' := (if x7 = 0 then 129 else 169)) (ls' := [some (.ref 88), some (.int x1), some (.int x2), some (.int x3), some (.long x4), none, some (.int x6), some (.int x7), some (.int (y0 + (y1 * y2)))]) (st' := []) (h1 := (SH, s)) rfl (Rn_if (fun h5 => ?_) (fun h5 => ?_))
  · replace hJ := m_ifp h5 hJ
    refine Rn_sq srt301 69 3 (pc' := (if (y0 + (y1 * y2)) ≤ x3 then 138 else 135)) (ls' := [some (.ref 88), some (.int x1), some (.int x2), some (.int x3), some (.long x4), none, some (.int x6), some (.int x7), some (.int (y0 + (y1 * y2)))]) (st' := []) (h1 := (SH, s)) rfl (Rn_if (fun h6 => ?_) (fun h6 => ?_))
    · replace hJ := m_ifp h6 hJ
      refine Rn_sq srt301 73 4 (pc' := 145) (ls' := [some (.ref 88), some (.int x1), some (.int x2), some (.int x3), some (.long x4), none, some (.int x6), some (.int x7), some (.int (y0 + (y1 * y2)))]) (st' := [(.int x6), (.int x1), (.ref 101)]) (h1 := (SH, s)) rfl ?_
      obtain ⟨h7, hJ⟩ := m_gn hJ
      extract_lets +onlyGivenNames s8 at hJ
      refine Rn_ev srt301 77 rfl rfl rfl (op_ias sh101 h7 (k := x1.toNatClampNeg) rfl) ?_
      refine Rn_sq srt301 78 12 (pc' := 164) (ls' := [some (.ref 88), some (.int x1), some (.int x2), some (.int x3), some (.long x4), none, some (.int x6), some (.int x7), some (.int (y0 + (y1 * y2)))]) (st' := [(.int x6), (.ref 100), (.long x4), (.int (x3 - (y0 + (y1 * y2)))), (.int x6), (.int (x1 + (ci 1))), (.ref 88)]) (h1 := (SH, s8)) rfl ?_
      obtain ⟨h9, hJ⟩ := m_gn hJ
      refine Rn_ev srt301 90 rfl rfl rfl (op_la sh100 h9 (k := x6.toNatClampNeg) rfl) ?_
      refine Rn_sq srt301 91 1 (pc' := 166) (ls' := [some (.ref 88), some (.int x1), some (.int x2), some (.int x3), some (.long x4), none, some (.int x6), some (.int x7), some (.int (y0 + (y1 * y2)))]) (st' := [(.long (x4 + (s8.2 100 x6.toNatClampNeg))), (.int (x3 - (y0 + (y1 * y2)))), (.int x6), (.int (x1 + (ci 1))), (.ref 88)]) (h1 := (SH, s8)) rfl ?_
      obtain ⟨s11, h10, hJ⟩ := m_b1 hJ
      refine Rn_call srt301 92 rfl rfl rfl ⟨Nat.le_of_ble_eq_true rfl, Nat.le_of_ble_eq_true rfl, rfl, Nat.le_of_ble_eq_true rfl⟩ (Rn_dep 0 (hrec _ _ _ _ _ _ h10)) (show Rn N xs (d + 1) me301 169 [some (.ref 88), some (.int x1), some (.int x2), some (.int x3), some (.long x4), none, some (.int x6), some (.int x7), some (.int (y0 + (y1 * y2)))] [] (SH, s11) r from ?_)
      exact Rn_weaken (a := [some (.ref 88), some (.int x1), some (.int x2), some (.int x3), some (.long x4), none, some (.int x6), none, none]) (b := [some (.ref 88), some (.int x1), some (.int x2), some (.int x3), some (.long x4), none, some (.int x6), some (.int x7), some (.int (y0 + (y1 * y2)))]) (And.intro rfl (And.intro rfl (And.intro rfl (And.intro rfl (And.intro rfl (And.intro rfl trivial)))))) rfl (k_X12_searches_169 rec d hrec hJ hC)
    · replace hJ := m_ifn h6 hJ
      refine Rn_sq srt301 72 1 (pc' := 169) (ls' := [some (.ref 88), some (.int x1), some (.int x2), some (.int x3), some (.long x4), none, some (.int x6), some (.int x7), some (.int (y0 + (y1 * y2)))]) (st' := []) (h1 := (SH, s)) rfl ?_
      exact Rn_weaken (a := [some (.ref 88), some (.int x1), some (.int x2), some (.int x3), some (.long x4), none, some (.int x6), none, none]) (b := [some (.ref 88), some (.int x1), some (.int x2), some (.int x3), some (.long x4), none, some (.int x6), some (.int x7), some (.int (y0 + (y1 * y2)))]) (And.intro rfl (And.intro rfl (And.intro rfl (And.intro rfl (And.intro rfl (And.intro rfl trivial)))))) rfl (k_X12_searches_169 rec d hrec hJ hC)
  · replace hJ := m_ifn h5 hJ
    exact Rn_weaken (a := [some (.ref 88), some (.int x1), some (.int x2), some (.int x3), some (.long x4), none, some (.int x6), none, none]) (b := [some (.ref 88), some (.int x1), some (.int x2), some (.int x3), some (.long x4), none, some (.int x6), some (.int x7), some (.int (y0 + (y1 * y2)))]) (And.intro rfl (And.intro rfl (And.intro rfl (And.intro rfl (And.intro rfl (And.intro rfl trivial)))))) rfl (k_X12_searches_169 rec d hrec hJ hC)
def F_X12_searches_93 (rec : Int32 → Int32 → Int32 → Int64 → mG → Option (mG)) (x1 : Int32) (x2 : Int32) (x3 : Int32) (x4 : Int64) (x6 : Int32) (x8 : Int32) (y0 : Int32) (s : mG) : Option ((Int32 × Int32 × Int32 × Int64 × Int32 × Int32 × Int32 × mG) ⊕ ((Int32 × Int32 × Int32 × Int64 × Int32 × mG) ⊕ (mG))) :=
  some (Sum.inl (x1, x2, x3, x4, x6, y0, (x8 + ci 1), s))
set_option maxRecDepth 4000 in
theorem k_X12_searches_93 {N : Nat} {xs : Nat → Int32} (rec : Int32 → Int32 → Int32 → Int64 → mG → Option (mG)) (d : Nat) (hrec : ∀ (b0 : Int32) (b1 : Int32) (b2 : Int32) (b3 : Int64) (s : mG) (τ : mG), rec b0 b1 b2 b3 s = some τ → Rn N xs d me301 0 [some (.ref 88), some (.int b0), some (.int b1), some (.int b2), some (.long b3), none, none, none, none] [] (SH, s) (none, (SH, τ))) {r : Option Value × mH} {s : mG} {x1 : Int32} {x2 : Int32} {x3 : Int32} {x4 : Int64} {x6 : Int32} {x8 : Int32} {y0 : Int32} {τ : ((Int32 × Int32 × Int32 × Int64 × Int32 × Int32 × Int32 × mG) ⊕ ((Int32 × Int32 × Int32 × Int64 × Int32 × mG) ⊕ (mG)))} (hJ : F_X12_searches_93 rec x1 x2 x3 x4 x6 x8 y0 s = some τ) (hC : (C_X12_searches_65 N xs rec d r (C_X12_searches_53 N xs rec d r (fun τ => r = (none, (SH, τ))))) τ) : Rn N xs (d + 1) me301 93 [some (.ref 88), some (.int x1), some (.int x2), some (.int x3), some (.long x4), none, some (.int x6), none, some (.int x8)] [(.int y0)] (SH, s) r := by
  unfold F_X12_searches_93 at hJ
  refine Rn_sq srt301 49 3 (pc' := 65) (ls' := [some (.ref 88), some (.int x1), some (.int x2), some (.int x3), some (.long x4), none, some (.int x6), some (.int y0), some (.int (x8 + ci 1))]) (st' := []) (h1 := (SH, s)) rfl ?_
  rw [← Option.some.inj hJ] at hC
  exact hC
def F_X12_searches_88 (rec : Int32 → Int32 → Int32 → Int64 → mG → Option (mG)) (x1 : Int32) (x2 : Int32) (x3 : Int32) (x4 : Int64) (x6 : Int32) (x8 : Int32) (s : mG) : Option ((Int32 × Int32 × Int32 × Int64 × Int32 × Int32 × Int32 × mG) ⊕ ((Int32 × Int32 × Int32 × Int64 × Int32 × mG) ⊕ (mG))) :=
  F_X12_searches_93 rec x1 x2 x3 x4 x6 x8 (ci 1) s
set_option maxRecDepth 4000 in
theorem k_X12_searches_88 {N : Nat} {xs : Nat → Int32} (rec : Int32 → Int32 → Int32 → Int64 → mG → Option (mG)) (d : Nat) (hrec : ∀ (b0 : Int32) (b1 : Int32) (b2 : Int32) (b3 : Int64) (s : mG) (τ : mG), rec b0 b1 b2 b3 s = some τ → Rn N xs d me301 0 [some (.ref 88), some (.int b0), some (.int b1), some (.int b2), some (.long b3), none, none, none, none] [] (SH, s) (none, (SH, τ))) {r : Option Value × mH} {s : mG} {x1 : Int32} {x2 : Int32} {x3 : Int32} {x4 : Int64} {x6 : Int32} {x8 : Int32} {τ : ((Int32 × Int32 × Int32 × Int64 × Int32 × Int32 × Int32 × mG) ⊕ ((Int32 × Int32 × Int32 × Int64 × Int32 × mG) ⊕ (mG)))} (hJ : F_X12_searches_88 rec x1 x2 x3 x4 x6 x8 s = some τ) (hC : (C_X12_searches_65 N xs rec d r (C_X12_searches_53 N xs rec d r (fun τ => r = (none, (SH, τ))))) τ) : Rn N xs (d + 1) me301 88 [some (.ref 88), some (.int x1), some (.int x2), some (.int x3), some (.long x4), none, some (.int x6), none, some (.int x8)] [] (SH, s) r := by
  unfold F_X12_searches_88 at hJ
  refine Rn_sq srt301 46 2 (pc' := 93) (ls' := [some (.ref 88), some (.int x1), some (.int x2), some (.int x3), some (.long x4), none, some (.int x6), none, some (.int x8)]) (st' := [(.int (ci 1))]) (h1 := (SH, s)) rfl ?_
  exact (k_X12_searches_93 rec d hrec hJ hC)
def F_X12_searches_B65 (rec : Int32 → Int32 → Int32 → Int64 → mG → Option (mG)) (x1 : Int32) (x2 : Int32) (x3 : Int32) (x4 : Int64) (x6 : Int32) (x7 : Int32) (x8 : Int32) (s : mG) : Option ((Int32 × Int32 × Int32 × Int64 × Int32 × Int32 × Int32 × mG) ⊕ ((Int32 × Int32 × Int32 × Int64 × Int32 × mG) ⊕ (mG))) :=
  if x1 ≤ x8 then
    if x2 ≤ x6 then
      b1 (F_X12_searches_120 rec x1 x2 x3 x4 x6 x7 (ci 3) (ci 2) (x6 - x2) s) fun τ => some (Sum.inr τ)
    else
      b1 (F_X12_searches_120 rec x1 x2 x3 x4 x6 x7 (ci 3) (ci 2) (x2 - x6) s) fun τ => some (Sum.inr τ)
  else
    if x7 = 0 then
      if x8 < 0 ∨ 4 ≤ x8.toNatClampNeg then none else
      if (s.1 101 x8.toNatClampNeg) = x6 then
        F_X12_searches_88 rec x1 x2 x3 x4 x6 x8 s
      else
        F_X12_searches_93 rec x1 x2 x3 x4 x6 x8 (ci 0) s
    else
      F_X12_searches_88 rec x1 x2 x3 x4 x6 x8 s
set_option maxRecDepth 4000 in
theorem k_X12_searches_B65 {N : Nat} {xs : Nat → Int32} (rec : Int32 → Int32 → Int32 → Int64 → mG → Option (mG)) (d : Nat) (hrec : ∀ (b0 : Int32) (b1 : Int32) (b2 : Int32) (b3 : Int64) (s : mG) (τ : mG), rec b0 b1 b2 b3 s = some τ → Rn N xs d me301 0 [some (.ref 88), some (.int b0), some (.int b1), some (.int b2), some (.long b3), none, none, none, none] [] (SH, s) (none, (SH, τ))) {r : Option Value × mH} {s : mG} {x1 : Int32} {x2 : Int32} {x3 : Int32} {x4 : Int64} {x6 : Int32} {x7 : Int32} {x8 : Int32} {τ : ((Int32 × Int32 × Int32 × Int64 × Int32 × Int32 × Int32 × mG) ⊕ ((Int32 × Int32 × Int32 × Int64 × Int32 × mG) ⊕ (mG)))} (hJ : F_X12_searches_B65 rec x1 x2 x3 x4 x6 x7 x8 s = some τ) (hC : (C_X12_searches_65 N xs rec d r (C_X12_searches_53 N xs rec d r (fun τ => r = (none, (SH, τ))))) τ) : Rn N xs (d + 1) me301 65 [some (.ref 88), some (.int x1), some (.int x2), some (.int x3), some (.long x4), none, some (.int x6), some (.int x7), some (.int x8)] [] (SH, s) r := by
  unfold F_X12_searches_B65 at hJ
  refine Rn_sq srt301 35 3 (pc' := (if x1 ≤ x8 then 101 else 71)) (ls' := [some (.ref 88), some (.int x1), some (.int x2), some (.int x3), some (.long x4), none, some (.int x6), some (.int x7), some (.int x8)]) (st' := []) (h1 := (SH, s)) rfl (Rn_if (fun h3 => ?_) (fun h3 => ?_))
  · replace hJ := m_ifp h3 hJ
    refine Rn_sq srt301 52 5 (pc' := (if x2 ≤ x6 then 116 else 109)) (ls' := [some (.ref 88), some (.int x1), some (.int x2), some (.int x3), some (.long x4), none, some (.int x6), some (.int x7), some (.int x8)]) (st' := [(.int (ci 2)), (.int (ci 3))]) (h1 := (SH, s)) rfl (Rn_if (fun h4 => ?_) (fun h4 => ?_))
    · replace hJ := m_ifp h4 hJ
      refine Rn_sq srt301 61 3 (pc' := 120) (ls' := [some (.ref 88), some (.int x1), some (.int x2), some (.int x3), some (.long x4), none, some (.int x6), some (.int x7), some (.int x8)]) (st' := [(.int (x6 - x2)), (.int (ci 2)), (.int (ci 3))]) (h1 := (SH, s)) rfl ?_
      obtain ⟨τ1, hJ1, hJ⟩ := m_b1 hJ
      rw [← Option.some.inj hJ] at hC
      exact Rn_weaken (a := [some (.ref 88), some (.int x1), some (.int x2), some (.int x3), some (.long x4), none, some (.int x6), some (.int x7), none]) (b := [some (.ref 88), some (.int x1), some (.int x2), some (.int x3), some (.long x4), none, some (.int x6), some (.int x7), some (.int x8)]) (And.intro rfl (And.intro rfl (And.intro rfl (And.intro rfl (And.intro rfl (And.intro rfl (And.intro rfl trivial))))))) rfl (k_X12_searches_120 rec d hrec hJ1 hC)
    · replace hJ := m_ifn h4 hJ
      refine Rn_sq srt301 57 4 (pc' := 120) (ls' := [some (.ref 88), some (.int x1), some (.int x2), some (.int x3), some (.long x4), none, some (.int x6), some (.int x7), some (.int x8)]) (st' := [(.int (x2 - x6)), (.int (ci 2)), (.int (ci 3))]) (h1 := (SH, s)) rfl ?_
      obtain ⟨τ1, hJ1, hJ⟩ := m_b1 hJ
      rw [← Option.some.inj hJ] at hC
      exact Rn_weaken (a := [some (.ref 88), some (.int x1), some (.int x2), some (.int x3), some (.long x4), none, some (.int x6), some (.int x7), none]) (b := [some (.ref 88), some (.int x1), some (.int x2), some (.int x3), some (.long x4), none, some (.int x6), some (.int x7), some (.int x8)]) (And.intro rfl (And.intro rfl (And.intro rfl (And.intro rfl (And.intro rfl (And.intro rfl (And.intro rfl trivial))))))) rfl (k_X12_searches_120 rec d hrec hJ1 hC)
  · replace hJ := m_ifn h3 hJ
    refine Rn_sq srt301 38 2 (pc' := (if x7 = 0 then 76 else 88)) (ls' := [some (.ref 88), some (.int x1), some (.int x2), some (.int x3), some (.long x4), none, some (.int x6), some (.int x7), some (.int x8)]) (st' := []) (h1 := (SH, s)) rfl (Rn_if (fun h12 => ?_) (fun h12 => ?_))
    · replace hJ := m_ifp h12 hJ
      refine Rn_sq srt301 40 3 (pc' := 82) (ls' := [some (.ref 88), some (.int x1), some (.int x2), some (.int x3), some (.long x4), none, some (.int x6), some (.int x7), some (.int x8)]) (st' := [(.int x8), (.ref 101)]) (h1 := (SH, s)) rfl ?_
      obtain ⟨h13, hJ⟩ := m_gn hJ
      refine Rn_ev srt301 43 rfl rfl rfl (op_ia sh101 h13 (k := x8.toNatClampNeg) rfl) ?_
      refine Rn_sq srt301 44 2 (pc' := (if (s.1 101 x8.toNatClampNeg) = x6 then 88 else 92)) (ls' := [some (.ref 88), some (.int x1), some (.int x2), some (.int x3), some (.long x4), none, some (.int x6), some (.int x7), some (.int x8)]) (st' := []) (h1 := (SH, s)) rfl (Rn_if (fun h14 => ?_) (fun h14 => ?_))
      · replace hJ := m_ifp h14 hJ
        exact Rn_weaken (a := [some (.ref 88), some (.int x1), some (.int x2), some (.int x3), some (.long x4), none, some (.int x6), none, some (.int x8)]) (b := [some (.ref 88), some (.int x1), some (.int x2), some (.int x3), some (.long x4), none, some (.int x6), some (.int x7), some (.int x8)]) (And.intro rfl (And.intro rfl (And.intro rfl (And.intro rfl (And.intro rfl (And.intro rfl (And.intro rfl trivial))))))) rfl (k_X12_searches_88 rec d hrec hJ hC)
      · replace hJ := m_ifn h14 hJ
        refine Rn_sq srt301 48 1 (pc' := 93) (ls' := [some (.ref 88), some (.int x1), some (.int x2), some (.int x3), some (.long x4), none, some (.int x6), some (.int x7), some (.int x8)]) (st' := [(.int (ci 0))]) (h1 := (SH, s)) rfl ?_
        exact Rn_weaken (a := [some (.ref 88), some (.int x1), some (.int x2), some (.int x3), some (.long x4), none, some (.int x6), none, some (.int x8)]) (b := [some (.ref 88), some (.int x1), some (.int x2), some (.int x3), some (.long x4), none, some (.int x6), some (.int x7), some (.int x8)]) (And.intro rfl (And.intro rfl (And.intro rfl (And.intro rfl (And.intro rfl (And.intro rfl (And.intro rfl trivial))))))) rfl (k_X12_searches_93 rec d hrec hJ hC)
    · replace hJ := m_ifn h12 hJ
      exact Rn_weaken (a := [some (.ref 88), some (.int x1), some (.int x2), some (.int x3), some (.long x4), none, some (.int x6), none, some (.int x8)]) (b := [some (.ref 88), some (.int x1), some (.int x2), some (.int x3), some (.long x4), none, some (.int x6), some (.int x7), some (.int x8)]) (And.intro rfl (And.intro rfl (And.intro rfl (And.intro rfl (And.intro rfl (And.intro rfl (And.intro rfl trivial))))))) rfl (k_X12_searches_88 rec d hrec hJ hC)
def F_X12_searches_L65 (rec : Int32 → Int32 → Int32 → Int64 → mG → Option (mG)) (x1 : Int32) (x2 : Int32) (x3 : Int32) (x4 : Int64) (x6 : Int32) (x7 : Int32) (x8 : Int32) (s : mG) : Option ((Int32 × Int32 × Int32 × Int64 × Int32 × mG) ⊕ (mG)) := whl (fun (v : (Int32 × Int32 × Int32 × Int64 × Int32 × Int32 × Int32 × mG)) => F_X12_searches_B65 rec v.1 v.2.1 v.2.2.1 v.2.2.2.1 v.2.2.2.2.1 v.2.2.2.2.2.1 v.2.2.2.2.2.2.1 v.2.2.2.2.2.2.2) (x1, x2, x3, x4, x6, x7, x8, s)
theorem k_X12_searches_L65 {N : Nat} {xs : Nat → Int32} (rec : Int32 → Int32 → Int32 → Int64 → mG → Option (mG)) (d : Nat) (hrec : ∀ (b0 : Int32) (b1 : Int32) (b2 : Int32) (b3 : Int64) (s : mG) (τ : mG), rec b0 b1 b2 b3 s = some τ → Rn N xs d me301 0 [some (.ref 88), some (.int b0), some (.int b1), some (.int b2), some (.long b3), none, none, none, none] [] (SH, s) (none, (SH, τ))) {r : Option Value × mH} {s : mG} {x1 : Int32} {x2 : Int32} {x3 : Int32} {x4 : Int64} {x6 : Int32} {x7 : Int32} {x8 : Int32} {τ : ((Int32 × Int32 × Int32 × Int64 × Int32 × mG) ⊕ (mG))} (hJ : F_X12_searches_L65 rec x1 x2 x3 x4 x6 x7 x8 s = some τ) (hC : (C_X12_searches_53 N xs rec d r (fun τ => r = (none, (SH, τ)))) τ) : Rn N xs (d + 1) me301 65 [some (.ref 88), some (.int x1), some (.int x2), some (.int x3), some (.long x4), none, some (.int x6), some (.int x7), some (.int x8)] [] (SH, s) r :=
  whl_link (P := fun (v : (Int32 × Int32 × Int32 × Int64 × Int32 × Int32 × Int32 × mG)) => Rn N xs (d + 1) me301 65 [some (.ref 88), some (.int v.1), some (.int v.2.1), some (.int v.2.2.1), some (.long v.2.2.2.1), none, some (.int v.2.2.2.2.1), some (.int v.2.2.2.2.2.1), some (.int v.2.2.2.2.2.2.1)] [] (SH, v.2.2.2.2.2.2.2) r) (C := (C_X12_searches_65 N xs rec d r (C_X12_searches_53 N xs rec d r (fun τ => r = (none, (SH, τ)))))) (fun v τ h1 h2 => k_X12_searches_B65 rec d hrec h1 h2) (fun _ h => h) (fun _ h => h) _ _ hJ hC
def F_X12_searches_B53 (rec : Int32 → Int32 → Int32 → Int64 → mG → Option (mG)) (x1 : Int32) (x2 : Int32) (x3 : Int32) (x4 : Int64) (x6 : Int32) (s : mG) : Option ((Int32 × Int32 × Int32 × Int64 × Int32 × mG) ⊕ (mG)) :=
  if (ci 4) ≤ x6 then
    some (Sum.inr s)
  else
    F_X12_searches_L65 rec x1 x2 x3 x4 x6 (ci 0) (ci 0) s
set_option maxRecDepth 4000 in
theorem k_X12_searches_B53 {N : Nat} {xs : Nat → Int32} (rec : Int32 → Int32 → Int32 → Int64 → mG → Option (mG)) (d : Nat) (hrec : ∀ (b0 : Int32) (b1 : Int32) (b2 : Int32) (b3 : Int64) (s : mG) (τ : mG), rec b0 b1 b2 b3 s = some τ → Rn N xs d me301 0 [some (.ref 88), some (.int b0), some (.int b1), some (.int b2), some (.long b3), none, none, none, none] [] (SH, s) (none, (SH, τ))) {r : Option Value × mH} {s : mG} {x1 : Int32} {x2 : Int32} {x3 : Int32} {x4 : Int64} {x6 : Int32} {τ : ((Int32 × Int32 × Int32 × Int64 × Int32 × mG) ⊕ (mG))} (hJ : F_X12_searches_B53 rec x1 x2 x3 x4 x6 s = some τ) (hC : (C_X12_searches_53 N xs rec d r (fun τ => r = (none, (SH, τ)))) τ) : Rn N xs (d + 1) me301 53 [some (.ref 88), some (.int x1), some (.int x2), some (.int x3), some (.long x4), none, some (.int x6), none, none] [] (SH, s) r := by
  unfold F_X12_searches_B53 at hJ
  refine Rn_sq srt301 28 3 (pc' := (if (ci 4) ≤ x6 then 175 else 59)) (ls' := [some (.ref 88), some (.int x1), some (.int x2), some (.int x3), some (.long x4), none, some (.int x6), none, none]) (st' := []) (h1 := (SH, s)) rfl (Rn_if (fun h2 => ?_) (fun h2 => ?_))
  · replace hJ := m_ifp h2 hJ
    rw [← Option.some.inj hJ] at hC
    have hC : r = (none, (SH, s)) := hC
    subst hC
    exact Rn_ret srt301 95 rfl rfl rfl
  · replace hJ := m_ifn h2 hJ
    refine Rn_sq srt301 31 4 (pc' := 65) (ls' := [some (.ref 88), some (.int x1), some (.int x2), some (.int x3), some (.long x4), none, some (.int x6), some (.int (ci 0)), some (.int (ci 0))]) (st' := []) (h1 := (SH, s)) rfl ?_
    exact (k_X12_searches_L65 rec d hrec hJ hC)
def F_X12_searches_L53 (rec : Int32 → Int32 → Int32 → Int64 → mG → Option (mG)) (x1 : Int32) (x2 : Int32) (x3 : Int32) (x4 : Int64) (x6 : Int32) (s : mG) : Option (mG) := whl (fun (v : (Int32 × Int32 × Int32 × Int64 × Int32 × mG)) => F_X12_searches_B53 rec v.1 v.2.1 v.2.2.1 v.2.2.2.1 v.2.2.2.2.1 v.2.2.2.2.2) (x1, x2, x3, x4, x6, s)
theorem k_X12_searches_L53 {N : Nat} {xs : Nat → Int32} (rec : Int32 → Int32 → Int32 → Int64 → mG → Option (mG)) (d : Nat) (hrec : ∀ (b0 : Int32) (b1 : Int32) (b2 : Int32) (b3 : Int64) (s : mG) (τ : mG), rec b0 b1 b2 b3 s = some τ → Rn N xs d me301 0 [some (.ref 88), some (.int b0), some (.int b1), some (.int b2), some (.long b3), none, none, none, none] [] (SH, s) (none, (SH, τ))) {r : Option Value × mH} {s : mG} {x1 : Int32} {x2 : Int32} {x3 : Int32} {x4 : Int64} {x6 : Int32} {τ : (mG)} (hJ : F_X12_searches_L53 rec x1 x2 x3 x4 x6 s = some τ) (hC : (fun τ => r = (none, (SH, τ))) τ) : Rn N xs (d + 1) me301 53 [some (.ref 88), some (.int x1), some (.int x2), some (.int x3), some (.long x4), none, some (.int x6), none, none] [] (SH, s) r :=
  whl_link (P := fun (v : (Int32 × Int32 × Int32 × Int64 × Int32 × mG)) => Rn N xs (d + 1) me301 53 [some (.ref 88), some (.int v.1), some (.int v.2.1), some (.int v.2.2.1), some (.long v.2.2.2.1), none, some (.int v.2.2.2.2.1), none, none] [] (SH, v.2.2.2.2.2) r) (C := (C_X12_searches_53 N xs rec d r (fun τ => r = (none, (SH, τ))))) (fun v τ h1 h2 => k_X12_searches_B53 rec d hrec h1 h2) (fun _ h => h) (fun _ h => h) _ _ hJ hC
def F_X12_searches_50 (rec : Int32 → Int32 → Int32 → Int64 → mG → Option (mG)) (x1 : Int32) (x2 : Int32) (x3 : Int32) (x4 : Int64) (s : mG) : Option (mG) :=
  F_X12_searches_L53 rec x1 x2 x3 x4 (ci 0) s
set_option maxRecDepth 4000 in
theorem k_X12_searches_50 {N : Nat} {xs : Nat → Int32} (rec : Int32 → Int32 → Int32 → Int64 → mG → Option (mG)) (d : Nat) (hrec : ∀ (b0 : Int32) (b1 : Int32) (b2 : Int32) (b3 : Int64) (s : mG) (τ : mG), rec b0 b1 b2 b3 s = some τ → Rn N xs d me301 0 [some (.ref 88), some (.int b0), some (.int b1), some (.int b2), some (.long b3), none, none, none, none] [] (SH, s) (none, (SH, τ))) {r : Option Value × mH} {s : mG} {x1 : Int32} {x2 : Int32} {x3 : Int32} {x4 : Int64} {τ : (mG)} (hJ : F_X12_searches_50 rec x1 x2 x3 x4 s = some τ) (hC : (fun τ => r = (none, (SH, τ))) τ) : Rn N xs (d + 1) me301 50 [some (.ref 88), some (.int x1), some (.int x2), some (.int x3), some (.long x4), none, none, none, none] [] (SH, s) r := by
  unfold F_X12_searches_50 at hJ
  refine Rn_sq srt301 26 2 (pc' := 53) (ls' := [some (.ref 88), some (.int x1), some (.int x2), some (.int x3), some (.long x4), none, some (.int (ci 0)), none, none]) (st' := []) (h1 := (SH, s)) rfl ?_
  exact (k_X12_searches_L53 rec d hrec hJ hC)
def C_X12_searches_24 (N : Nat) (xs : Nat → Int32) (rec : Int32 → Int32 → Int32 → Int64 → mG → Option (mG)) (d : Nat) (r : Option Value × mH) (C : (mG) → Prop) : ((Int32 × Int32 × Int32 × Int64 × Int32 × mG) ⊕ (mG)) → Prop
  | .inl v => Rn N xs (d + 1) me301 24 [some (.ref 88), some (.int v.1), some (.int v.2.1), some (.int v.2.2.1), some (.long v.2.2.2.1), none, some (.int v.2.2.2.2.1), none, none] [] (SH, v.2.2.2.2.2) r
  | .inr a => C a
def F_X12_searches_B24 (rec : Int32 → Int32 → Int32 → Int64 → mG → Option (mG)) (x1 : Int32) (x2 : Int32) (x3 : Int32) (x4 : Int64) (x6 : Int32) (s : mG) : Option ((Int32 × Int32 × Int32 × Int64 × Int32 × mG) ⊕ (mG)) :=
  if x1 ≤ x6 then
    b1 (F_X12_searches_50 rec x1 x2 x3 x4 s) fun τ => some (Sum.inr τ)
  else
    if x6 < 0 ∨ 4 ≤ x6.toNatClampNeg then none else
    if x6 < 0 ∨ 4 ≤ x6.toNatClampNeg then none else
    let s20 : mG := (mu s.1 102 x6.toNatClampNeg (s.1 101 x6.toNatClampNeg), s.2)
    some (Sum.inl (x1, x2, x3, x4, (x6 + ci 1), s20))
set_option maxRecDepth 4000 in
theorem k_X12_searches_B24 {N : Nat} {xs : Nat → Int32} (rec : Int32 → Int32 → Int32 → Int64 → mG → Option (mG)) (d : Nat) (hrec : ∀ (b0 : Int32) (b1 : Int32) (b2 : Int32) (b3 : Int64) (s : mG) (τ : mG), rec b0 b1 b2 b3 s = some τ → Rn N xs d me301 0 [some (.ref 88), some (.int b0), some (.int b1), some (.int b2), some (.long b3), none, none, none, none] [] (SH, s) (none, (SH, τ))) {r : Option Value × mH} {s : mG} {x1 : Int32} {x2 : Int32} {x3 : Int32} {x4 : Int64} {x6 : Int32} {τ : ((Int32 × Int32 × Int32 × Int64 × Int32 × mG) ⊕ (mG))} (hJ : F_X12_searches_B24 rec x1 x2 x3 x4 x6 s = some τ) (hC : (C_X12_searches_24 N xs rec d r (fun τ => r = (none, (SH, τ)))) τ) : Rn N xs (d + 1) me301 24 [some (.ref 88), some (.int x1), some (.int x2), some (.int x3), some (.long x4), none, some (.int x6), none, none] [] (SH, s) r := by
  unfold F_X12_searches_B24 at hJ
  refine Rn_sq srt301 13 3 (pc' := (if x1 ≤ x6 then 50 else 30)) (ls' := [some (.ref 88), some (.int x1), some (.int x2), some (.int x3), some (.long x4), none, some (.int x6), none, none]) (st' := []) (h1 := (SH, s)) rfl (Rn_if (fun h17 => ?_) (fun h17 => ?_))
  · replace hJ := m_ifp h17 hJ
    obtain ⟨τ1, hJ1, hJ⟩ := m_b1 hJ
    rw [← Option.some.inj hJ] at hC
    exact Rn_weaken (a := [some (.ref 88), some (.int x1), some (.int x2), some (.int x3), some (.long x4), none, none, none, none]) (b := [some (.ref 88), some (.int x1), some (.int x2), some (.int x3), some (.long x4), none, some (.int x6), none, none]) (And.intro rfl (And.intro rfl (And.intro rfl (And.intro rfl (And.intro rfl trivial))))) rfl (k_X12_searches_50 rec d hrec hJ1 hC)
  · replace hJ := m_ifn h17 hJ
    refine Rn_sq srt301 16 6 (pc' := 42) (ls' := [some (.ref 88), some (.int x1), some (.int x2), some (.int x3), some (.long x4), none, some (.int x6), none, none]) (st' := [(.int x6), (.ref 101), (.int x6), (.ref 102)]) (h1 := (SH, s)) rfl ?_
    obtain ⟨h18, hJ⟩ := m_gn hJ
    refine Rn_ev srt301 22 rfl rfl rfl (op_ia sh101 h18 (k := x6.toNatClampNeg) rfl) ?_
    obtain ⟨h19, hJ⟩ := m_gn hJ
    extract_lets +onlyGivenNames s20 at hJ
    refine Rn_ev srt301 23 rfl rfl rfl (op_ias sh102 h19 (k := x6.toNatClampNeg) rfl) ?_
    refine Rn_sq srt301 24 2 (pc' := 24) (ls' := [some (.ref 88), some (.int x1), some (.int x2), some (.int x3), some (.long x4), none, some (.int (x6 + ci 1)), none, none]) (st' := []) (h1 := (SH, s20)) rfl ?_
    rw [← Option.some.inj hJ] at hC
    exact hC
def F_X12_searches_L24 (rec : Int32 → Int32 → Int32 → Int64 → mG → Option (mG)) (x1 : Int32) (x2 : Int32) (x3 : Int32) (x4 : Int64) (x6 : Int32) (s : mG) : Option (mG) := whl (fun (v : (Int32 × Int32 × Int32 × Int64 × Int32 × mG)) => F_X12_searches_B24 rec v.1 v.2.1 v.2.2.1 v.2.2.2.1 v.2.2.2.2.1 v.2.2.2.2.2) (x1, x2, x3, x4, x6, s)
theorem k_X12_searches_L24 {N : Nat} {xs : Nat → Int32} (rec : Int32 → Int32 → Int32 → Int64 → mG → Option (mG)) (d : Nat) (hrec : ∀ (b0 : Int32) (b1 : Int32) (b2 : Int32) (b3 : Int64) (s : mG) (τ : mG), rec b0 b1 b2 b3 s = some τ → Rn N xs d me301 0 [some (.ref 88), some (.int b0), some (.int b1), some (.int b2), some (.long b3), none, none, none, none] [] (SH, s) (none, (SH, τ))) {r : Option Value × mH} {s : mG} {x1 : Int32} {x2 : Int32} {x3 : Int32} {x4 : Int64} {x6 : Int32} {τ : (mG)} (hJ : F_X12_searches_L24 rec x1 x2 x3 x4 x6 s = some τ) (hC : (fun τ => r = (none, (SH, τ))) τ) : Rn N xs (d + 1) me301 24 [some (.ref 88), some (.int x1), some (.int x2), some (.int x3), some (.long x4), none, some (.int x6), none, none] [] (SH, s) r :=
  whl_link (P := fun (v : (Int32 × Int32 × Int32 × Int64 × Int32 × mG)) => Rn N xs (d + 1) me301 24 [some (.ref 88), some (.int v.1), some (.int v.2.1), some (.int v.2.2.1), some (.long v.2.2.2.1), none, some (.int v.2.2.2.2.1), none, none] [] (SH, v.2.2.2.2.2) r) (C := (C_X12_searches_24 N xs rec d r (fun τ => r = (none, (SH, τ))))) (fun v τ h1 h2 => k_X12_searches_B24 rec d hrec h1 h2) (fun _ h => h) (fun _ h => h) _ _ hJ hC
def F_X12_searches (rec : Int32 → Int32 → Int32 → Int64 → mG → Option (mG)) (a1 : Int32) (a2 : Int32) (a3 : Int32) (a4 : Int64) (s : mG) : Option (mG) :=
  if (lg_cmp a4 (s.2 88 31)) ≤ 0 then
    F_X12_searches_50 rec a1 a2 a3 a4 s
  else
    let s15 : mG := (s.1, muL s.2 88 31 a4)
    let s16 : mG := (mu s15.1 88 32 a1, s15.2)
    F_X12_searches_L24 rec a1 a2 a3 a4 (ci 0) s16
set_option maxRecDepth 4000 in
theorem k_X12_searches_r {N : Nat} {xs : Nat → Int32} (rec : Int32 → Int32 → Int32 → Int64 → mG → Option (mG)) (d : Nat) (hrec : ∀ (b0 : Int32) (b1 : Int32) (b2 : Int32) (b3 : Int64) (s : mG) (τ : mG), rec b0 b1 b2 b3 s = some τ → Rn N xs d me301 0 [some (.ref 88), some (.int b0), some (.int b1), some (.int b2), some (.long b3), none, none, none, none] [] (SH, s) (none, (SH, τ))) {r : Option Value × mH} {s : mG} {a1 : Int32} {a2 : Int32} {a3 : Int32} {a4 : Int64} {τ : (mG)} (hJ : F_X12_searches rec a1 a2 a3 a4 s = some τ) (hC : (fun τ => r = (none, (SH, τ))) τ) : Rn N xs (d + 1) me301 0 [some (.ref 88), some (.int a1), some (.int a2), some (.int a3), some (.long a4), none, none, none, none] [] (SH, s) r := by
  unfold F_X12_searches at hJ
  refine Rn_sq srt301 0 5 (pc' := (if (lg_cmp a4 (s.2 88 31)) ≤ 0 then 50 else 10)) (ls' := [some (.ref 88), some (.int a1), some (.int a2), some (.int a3), some (.long a4), none, none, none, none]) (st' := []) (h1 := (SH, s)) rfl (Rn_if (fun h1 => ?_) (fun h1 => ?_))
  · replace hJ := m_ifp h1 hJ
    exact (k_X12_searches_50 rec d hrec hJ hC)
  · replace hJ := m_ifn h1 hJ
    extract_lets +onlyGivenNames s15 at hJ
    extract_lets +onlyGivenNames s16 at hJ
    refine Rn_sq srt301 5 8 (pc' := 24) (ls' := [some (.ref 88), some (.int a1), some (.int a2), some (.int a3), some (.long a4), none, some (.int (ci 0)), none, none]) (st' := []) (h1 := (SH, s16)) rfl ?_
    exact (k_X12_searches_L24 rec d hrec hJ hC)
theorem k_X12_searches {N : Nat} {xs : Nat → Int32} (rec : Int32 → Int32 → Int32 → Int64 → mG → Option (mG)) (d : Nat) (hrec : ∀ (b0 : Int32) (b1 : Int32) (b2 : Int32) (b3 : Int64) (s : mG) (τ : mG), rec b0 b1 b2 b3 s = some τ → Rn N xs d me301 0 [some (.ref 88), some (.int b0), some (.int b1), some (.int b2), some (.long b3), none, none, none, none] [] (SH, s) (none, (SH, τ))) {s : mG} {a1 : Int32} {a2 : Int32} {a3 : Int32} {a4 : Int64} {τ : (mG)} (hJ : F_X12_searches rec a1 a2 a3 a4 s = some τ) : Rn N xs (d + 1) me301 0 [some (.ref 88), some (.int a1), some (.int a2), some (.int a3), some (.long a4), none, none, none, none] [] (SH, s) (none, (SH, τ)) := k_X12_searches_r rec d hrec hJ rfl
def Q_X12_searches : Nat → Int32 → Int32 → Int32 → Int64 → mG → Option (mG)
  | 0 => fun _ _ _ _ _ => none
  | n + 1 => F_X12_searches (Q_X12_searches n)
theorem kQ_X12_searches {N : Nat} {xs : Nat → Int32} (d : Nat) : ∀ (n : Nat) (b0 : Int32) (b1 : Int32) (b2 : Int32) (b3 : Int64) (s : mG) (τ : mG), Q_X12_searches n b0 b1 b2 b3 s = some τ → Rn N xs (d + 1 * n) me301 0 [some (.ref 88), some (.int b0), some (.int b1), some (.int b2), some (.long b3), none, none, none, none] [] (SH, s) (none, (SH, τ)) := by
  intro n
  induction n with
  | zero => intro b0 b1 b2 b3 s τ h; cases h
  | succ n ih =>
    intro b0 b1 b2 b3 s τ h
    have h2 := k_X12_searches (N := N) (xs := xs) (Q_X12_searches n) (d + 1 * n) ih h
    rw [Nat.mul_succ, ← Nat.add_assoc]
    exact h2
def R_X12_searches : Int32 → Int32 → Int32 → Int64 → mG → Option (mG) := Q_X12_searches 5
theorem kR_X12_searches {N : Nat} {xs : Nat → Int32} (d : Nat) : ∀ (b0 : Int32) (b1 : Int32) (b2 : Int32) (b3 : Int64) (s : mG) (τ : mG), R_X12_searches b0 b1 b2 b3 s = some τ → Rn N xs (d + 5) me301 0 [some (.ref 88), some (.int b0), some (.int b1), some (.int b2), some (.long b3), none, none, none, none] [] (SH, s) (none, (SH, τ)) :=
  fun b0 b1 b2 b3 s τ h => kQ_X12_searches d 5 b0 b1 b2 b3 s τ h
/-! IsHeInModel.fire(II)I -/
theorem srt302 : m_srt mc302 = true := by decide +kernel
def F_X12_fire_30 (s : mG) : Option (Int32 × mG) :=
  some ((ci (-1)), s)
set_option maxRecDepth 4000 in
theorem k_X12_fire_30 {N : Nat} {xs : Nat → Int32} (d : Nat) {r : Option Value × mH} {s : mG} {τ : (Int32 × mG)} (hJ : F_X12_fire_30 s = some τ) (hC : (fun τ => r = (some (.int τ.1), (SH, τ.2))) τ) : Rn N xs (d + 7) me302 30 [none, none, none] [] (SH, s) r := by
  unfold F_X12_fire_30 at hJ
  refine Rn_sq srt302 15 1 (pc' := 31) (ls' := [none, none, none]) (st' := [(.int (ci (-1)))]) (h1 := (SH, s)) rfl ?_
  rw [← Option.some.inj hJ] at hC
  have hC : r = (some (.int (ci (-1))), (SH, s)) := hC
  subst hC
  exact Rn_ret srt302 16 rfl rfl rfl
def F_X12_fire_32 (x1 : Int32) (x2 : Int32) (s : mG) : Option (Int32 × mG) :=
  b1 (F_X12_laysFloors s) fun s11 =>
  let s12 : mG := (s11.1, muL s11.2 88 31 (cl (-1)))
  b1 (F_X12_searches R_X12_searches (ci 0) (ci 0) x1 (cz 0) s12) fun s14 =>
  if x2 = 0 then
    let v16 : Int32 := ((s14.2 88 31) / (cl 1000000)).toInt32
    some (v16, s14)
  else
    if x2 = (ci 1) then
      some ((s14.1 88 32), s14)
    else
      if (s14.1 88 32) ≤ (x2 - (c8 10)) then
        some ((ci (-1)), s14)
      else
        if (x2 - (c8 10)) < 0 ∨ 4 ≤ (x2 - (c8 10)).toNatClampNeg then none else
        let v20 : Int32 := (s14.1 102 (x2 - (c8 10)).toNatClampNeg)
        some (v20, s14)
set_option maxRecDepth 4000 in
theorem k_X12_fire_32 {N : Nat} {xs : Nat → Int32} (d : Nat) {r : Option Value × mH} {s : mG} {x1 : Int32} {x2 : Int32} {τ : (Int32 × mG)} (hJ : F_X12_fire_32 x1 x2 s = some τ) (hC : (fun τ => r = (some (.int τ.1), (SH, τ.2))) τ) : Rn N xs (d + 7) me302 32 [some (.ref 88), some (.int x1), some (.int x2)] [] (SH, s) r := by
  unfold F_X12_fire_32 at hJ
  refine Rn_sq srt302 17 1 (pc' := 33) (ls' := [some (.ref 88), some (.int x1), some (.int x2)]) (st' := [(.ref 88)]) (h1 := (SH, s)) rfl ?_
  obtain ⟨s11, h10, hJ⟩ := m_b1 hJ
  refine Rn_call srt302 18 rfl rfl rfl ⟨Nat.le_of_ble_eq_true rfl, Nat.le_of_ble_eq_true rfl, rfl, Nat.le_of_ble_eq_true rfl⟩ (k_X12_laysFloors (d) h10) (show Rn N xs (d + 7) me302 36 [some (.ref 88), some (.int x1), some (.int x2)] [] (SH, s11) r from ?_)
  extract_lets +onlyGivenNames s12 at hJ
  refine Rn_sq srt302 19 8 (pc' := 48) (ls' := [some (.ref 88), some (.int x1), some (.int x2)]) (st' := [(.long (cz 0)), (.int x1), (.int (ci 0)), (.int (ci 0)), (.ref 88)]) (h1 := (SH, s12)) rfl ?_
  obtain ⟨s14, h13, hJ⟩ := m_b1 hJ
  refine Rn_call srt302 27 rfl rfl rfl ⟨Nat.le_of_ble_eq_true rfl, Nat.le_of_ble_eq_true rfl, rfl, Nat.le_of_ble_eq_true rfl⟩ (Rn_dep 0 (k_X12_searches R_X12_searches (d + 5) (kR_X12_searches d) h13)) (show Rn N xs (d + 7) me302 51 [some (.ref 88), some (.int x1), some (.int x2)] [] (SH, s14) r from ?_)
  refine Rn_sq srt302 28 2 (pc' := (if x2 = 0 then 55 else 65)) (ls' := [some (.ref 88), some (.int x1), some (.int x2)]) (st' := []) (h1 := (SH, s14)) rfl (Rn_if (fun h15 => ?_) (fun h15 => ?_))
  · replace hJ := m_ifp h15 hJ
    refine Rn_sq srt302 30 3 (pc' := 62) (ls' := [some (.ref 88), some (.int x1), some (.int x2)]) (st' := [(.long (cl 1000000)), (.long (s14.2 88 31))]) (h1 := (SH, s14)) rfl ?_
    refine Rn_ev srt302 33 rfl rfl rfl (op_ldiv (by decide)) ?_
    refine Rn_sq srt302 34 1 (pc' := 64) (ls' := [some (.ref 88), some (.int x1), some (.int x2)]) (st' := [(.int ((s14.2 88 31) / (cl 1000000)).toInt32)]) (h1 := (SH, s14)) rfl ?_
    extract_lets +onlyGivenNames v16 at hJ
    rw [← Option.some.inj hJ] at hC
    have hC : r = (some (.int ((s14.2 88 31) / (cl 1000000)).toInt32), (SH, s14)) := hC
    subst hC
    exact Rn_ret srt302 35 rfl rfl rfl
  · replace hJ := m_ifn h15 hJ
    refine Rn_sq srt302 36 3 (pc' := (if x2 = (ci 1) then 70 else 77)) (ls' := [some (.ref 88), some (.int x1), some (.int x2)]) (st' := []) (h1 := (SH, s14)) rfl (Rn_if (fun h17 => ?_) (fun h17 => ?_))
    · replace hJ := m_ifp h17 hJ
      refine Rn_sq srt302 39 3 (pc' := 101) (ls' := [some (.ref 88), some (.int x1), some (.int x2)]) (st' := [(.int (s14.1 88 32))]) (h1 := (SH, s14)) rfl ?_
      rw [← Option.some.inj hJ] at hC
      have hC : r = (some (.int (s14.1 88 32)), (SH, s14)) := hC
      subst hC
      exact Rn_ret srt302 56 rfl rfl rfl
    · replace hJ := m_ifn h17 hJ
      refine Rn_sq srt302 42 6 (pc' := (if (s14.1 88 32) ≤ (x2 - (c8 10)) then 100 else 88)) (ls' := [some (.ref 88), some (.int x1), some (.int x2)]) (st' := []) (h1 := (SH, s14)) rfl (Rn_if (fun h18 => ?_) (fun h18 => ?_))
      · replace hJ := m_ifp h18 hJ
        refine Rn_sq srt302 55 1 (pc' := 101) (ls' := [some (.ref 88), some (.int x1), some (.int x2)]) (st' := [(.int (ci (-1)))]) (h1 := (SH, s14)) rfl ?_
        rw [← Option.some.inj hJ] at hC
        have hC : r = (some (.int (ci (-1))), (SH, s14)) := hC
        subst hC
        exact Rn_ret srt302 56 rfl rfl rfl
      · replace hJ := m_ifn h18 hJ
        refine Rn_sq srt302 48 5 (pc' := 96) (ls' := [some (.ref 88), some (.int x1), some (.int x2)]) (st' := [(.int (x2 - (c8 10))), (.ref 102)]) (h1 := (SH, s14)) rfl ?_
        obtain ⟨h19, hJ⟩ := m_gn hJ
        refine Rn_ev srt302 53 rfl rfl rfl (op_ia sh102 h19 (k := (x2 - (c8 10)).toNatClampNeg) rfl) ?_
        refine Rn_sq srt302 54 1 (pc' := 101) (ls' := [some (.ref 88), some (.int x1), some (.int x2)]) (st' := [(.int (s14.1 102 (x2 - (c8 10)).toNatClampNeg))]) (h1 := (SH, s14)) rfl ?_
        extract_lets +onlyGivenNames v20 at hJ
        rw [← Option.some.inj hJ] at hC
        have hC : r = (some (.int (s14.1 102 (x2 - (c8 10)).toNatClampNeg)), (SH, s14)) := hC
        subst hC
        exact Rn_ret srt302 56 rfl rfl rfl
def F_X12_fire (a1 : Int32) (a2 : Int32) (s : mG) : Option (Int32 × mG) :=
  b1 (F_X12_isIn s a1 (ci 1) (c8 99)) fun v2 =>
  if v2 = 0 then
    F_X12_fire_30 s
  else
    b1 (F_X12_isIn s a2 (ci 0) (ci 1)) fun v5 =>
    if v5 = 0 then
      b1 (F_X12_isIn s a2 (c8 10) (c8 13)) fun v8 =>
      if v8 = 0 then
        F_X12_fire_30 s
      else
        F_X12_fire_32 a1 a2 s
    else
      F_X12_fire_32 a1 a2 s
set_option maxRecDepth 4000 in
theorem k_X12_fire_r {N : Nat} {xs : Nat → Int32} (d : Nat) {r : Option Value × mH} {s : mG} {a1 : Int32} {a2 : Int32} {τ : (Int32 × mG)} (hJ : F_X12_fire a1 a2 s = some τ) (hC : (fun τ => r = (some (.int τ.1), (SH, τ.2))) τ) : Rn N xs (d + 7) me302 0 [some (.ref 88), some (.int a1), some (.int a2)] [] (SH, s) r := by
  unfold F_X12_fire at hJ
  refine Rn_sq srt302 0 3 (pc' := 4) (ls' := [some (.ref 88), some (.int a1), some (.int a2)]) (st' := [(.int (c8 99)), (.int (ci 1)), (.int a1)]) (h1 := (SH, s)) rfl ?_
  obtain ⟨v2, h1, hJ⟩ := m_b1 hJ
  refine Rn_call srt302 3 rfl rfl rfl ⟨Nat.le_of_ble_eq_true rfl, Nat.le_of_ble_eq_true rfl, rfl, Nat.le_of_ble_eq_true rfl⟩ (k_X12_isIn (d + 6) h1) (show Rn N xs (d + 7) me302 7 [some (.ref 88), some (.int a1), some (.int a2)] [(.int v2)] (SH, s) r from ?_)
  refine Rn_sq srt302 4 1 (pc' := (if v2 = 0 then 30 else 10)) (ls' := [some (.ref 88), some (.int a1), some (.int a2)]) (st' := []) (h1 := (SH, s)) rfl (Rn_if (fun h3 => ?_) (fun h3 => ?_))
  · replace hJ := m_ifp h3 hJ
    exact Rn_weaken (a := [none, none, none]) (b := [some (.ref 88), some (.int a1), some (.int a2)]) trivial rfl (k_X12_fire_30 d hJ hC)
  · replace hJ := m_ifn h3 hJ
    refine Rn_sq srt302 5 3 (pc' := 13) (ls' := [some (.ref 88), some (.int a1), some (.int a2)]) (st' := [(.int (ci 1)), (.int (ci 0)), (.int a2)]) (h1 := (SH, s)) rfl ?_
    obtain ⟨v5, h4, hJ⟩ := m_b1 hJ
    refine Rn_call srt302 8 rfl rfl rfl ⟨Nat.le_of_ble_eq_true rfl, Nat.le_of_ble_eq_true rfl, rfl, Nat.le_of_ble_eq_true rfl⟩ (k_X12_isIn (d + 6) h4) (show Rn N xs (d + 7) me302 16 [some (.ref 88), some (.int a1), some (.int a2)] [(.int v5)] (SH, s) r from ?_)
    refine Rn_sq srt302 9 1 (pc' := (if v5 = 0 then 19 else 32)) (ls' := [some (.ref 88), some (.int a1), some (.int a2)]) (st' := []) (h1 := (SH, s)) rfl (Rn_if (fun h6 => ?_) (fun h6 => ?_))
    · replace hJ := m_ifp h6 hJ
      refine Rn_sq srt302 10 3 (pc' := 24) (ls' := [some (.ref 88), some (.int a1), some (.int a2)]) (st' := [(.int (c8 13)), (.int (c8 10)), (.int a2)]) (h1 := (SH, s)) rfl ?_
      obtain ⟨v8, h7, hJ⟩ := m_b1 hJ
      refine Rn_call srt302 13 rfl rfl rfl ⟨Nat.le_of_ble_eq_true rfl, Nat.le_of_ble_eq_true rfl, rfl, Nat.le_of_ble_eq_true rfl⟩ (k_X12_isIn (d + 6) h7) (show Rn N xs (d + 7) me302 27 [some (.ref 88), some (.int a1), some (.int a2)] [(.int v8)] (SH, s) r from ?_)
      refine Rn_sq srt302 14 1 (pc' := (if v8 = 0 then 30 else 32)) (ls' := [some (.ref 88), some (.int a1), some (.int a2)]) (st' := []) (h1 := (SH, s)) rfl (Rn_if (fun h9 => ?_) (fun h9 => ?_))
      · replace hJ := m_ifp h9 hJ
        exact Rn_weaken (a := [none, none, none]) (b := [some (.ref 88), some (.int a1), some (.int a2)]) trivial rfl (k_X12_fire_30 d hJ hC)
      · replace hJ := m_ifn h9 hJ
        exact (k_X12_fire_32 d hJ hC)
    · replace hJ := m_ifn h6 hJ
      exact (k_X12_fire_32 d hJ hC)
theorem k_X12_fire {N : Nat} {xs : Nat → Int32} (d : Nat) {s : mG} {a1 : Int32} {a2 : Int32} {τ : (Int32 × mG)} (hJ : F_X12_fire a1 a2 s = some τ) : Rn N xs (d + 7) me302 0 [some (.ref 88), some (.int a1), some (.int a2)] [] (SH, s) (some (.int τ.1), (SH, τ.2)) := k_X12_fire_r d hJ rfl
/-! IsHeInModel.laysDoors()V -/
theorem srt303 : m_srt mc303 = true := by decide +kernel
def C_X12_laysDoors_2 (N : Nat) (xs : Nat → Int32) (d : Nat) (r : Option Value × mH) (C : (mG) → Prop) : ((Int32 × mG) ⊕ (mG)) → Prop
  | .inl v => Rn N xs (d + 4) me303 2 [some (.ref 88), some (.int v.1), none, none, none, none] [] (SH, v.2) r
  | .inr a => C a
def C_X12_laysDoors_45 (N : Nat) (xs : Nat → Int32) (d : Nat) (r : Option Value × mH) (C : ((Int32 × mG) ⊕ (mG)) → Prop) : ((Int32 × Int32 × Int32 × mG) ⊕ ((Int32 × mG) ⊕ (mG))) → Prop
  | .inl v => Rn N xs (d + 4) me303 45 [some (.ref 88), some (.int v.1), some (.int v.2.1), some (.int v.2.2.1), none, none] [] (SH, v.2.2.2) r
  | .inr a => C a
def F_X12_laysDoors_161 (x1 : Int32) (x2 : Int32) (x3 : Int32) (s : mG) : Option ((Int32 × Int32 × Int32 × mG) ⊕ ((Int32 × mG) ⊕ (mG))) :=
  some (Sum.inl (x1, x2, (x3 + ci 1), s))
set_option maxRecDepth 4000 in
theorem k_X12_laysDoors_161 {N : Nat} {xs : Nat → Int32} (d : Nat) {r : Option Value × mH} {s : mG} {x1 : Int32} {x2 : Int32} {x3 : Int32} {τ : ((Int32 × Int32 × Int32 × mG) ⊕ ((Int32 × mG) ⊕ (mG)))} (hJ : F_X12_laysDoors_161 x1 x2 x3 s = some τ) (hC : (C_X12_laysDoors_45 N xs d r (C_X12_laysDoors_2 N xs d r (fun τ => r = (none, (SH, τ))))) τ) : Rn N xs (d + 4) me303 161 [some (.ref 88), some (.int x1), some (.int x2), some (.int x3), none, none] [] (SH, s) r := by
  unfold F_X12_laysDoors_161 at hJ
  refine Rn_sq srt303 109 2 (pc' := 45) (ls' := [some (.ref 88), some (.int x1), some (.int x2), some (.int (x3 + ci 1)), none, none]) (st' := []) (h1 := (SH, s)) rfl ?_
  rw [← Option.some.inj hJ] at hC
  exact hC
def F_X12_laysDoors_B45 (x1 : Int32) (x2 : Int32) (x3 : Int32) (s : mG) : Option ((Int32 × Int32 × Int32 × mG) ⊕ ((Int32 × mG) ⊕ (mG))) :=
  if (s.1 89 112) ≤ x3 then
    some (Sum.inr (Sum.inl ((x1 + ci 1), s)))
  else
    if ((ci 3) + x3) < 0 ∨ 1894 ≤ ((ci 3) + x3).toNatClampNeg then none else
    if (s.1 89 ((ci 3) + x3).toNatClampNeg) = (ci 1) then
      F_X12_laysDoors_161 x1 x2 x3 s
    else
      if ((c8 27) + x3) < 0 ∨ 1894 ≤ ((c8 27) + x3).toNatClampNeg then none else
      b2 (F_X12_saysIn (c8 20) x3 x2 (s.1 89 113) (s.1 89 ((c8 27) + x3).toNatClampNeg) s) fun v13 s12 =>
      if ((c8 27) + x3) < 0 ∨ 1894 ≤ ((c8 27) + x3).toNatClampNeg then none else
      b2 (F_X12_saysIn (c8 24) x3 x2 (s12.1 89 113) (s12.1 89 ((c8 27) + x3).toNatClampNeg) s12) fun v17 s16 =>
      let v18 : Int32 := ((v13 * v17) / (c16 1000))
      if ((ci 2) * x1) < 0 ∨ 48 ≤ ((ci 2) * x1).toNatClampNeg then none else
      if ((ci 2) * x1) < 0 ∨ 48 ≤ ((ci 2) * x1).toNatClampNeg then none else
      let s21 : mG := (mu s16.1 103 ((ci 2) * x1).toNatClampNeg ((s16.1 103 ((ci 2) * x1).toNatClampNeg) + v18), s16.2)
      let v22 : Int32 := (((ci 2) * x1) + (ci 1))
      if v22 < 0 ∨ 48 ≤ v22.toNatClampNeg then none else
      if v22 < 0 ∨ 48 ≤ v22.toNatClampNeg then none else
      let s25 : mG := (mu s21.1 103 v22.toNatClampNeg ((s21.1 103 v22.toNatClampNeg) + (v13 - v18)), s21.2)
      F_X12_laysDoors_161 x1 x2 x3 s25
set_option maxRecDepth 4000 in
theorem k_X12_laysDoors_B45 {N : Nat} {xs : Nat → Int32} (d : Nat) {r : Option Value × mH} {s : mG} {x1 : Int32} {x2 : Int32} {x3 : Int32} {τ : ((Int32 × Int32 × Int32 × mG) ⊕ ((Int32 × mG) ⊕ (mG)))} (hJ : F_X12_laysDoors_B45 x1 x2 x3 s = some τ) (hC : (C_X12_laysDoors_45 N xs d r (C_X12_laysDoors_2 N xs d r (fun τ => r = (none, (SH, τ))))) τ) : Rn N xs (d + 4) me303 45 [some (.ref 88), some (.int x1), some (.int x2), some (.int x3), none, none] [] (SH, s) r := by
  unfold F_X12_laysDoors_B45 at hJ
  refine Rn_sq srt303 34 4 (pc' := 52) (ls' := [some (.ref 88), some (.int x1), some (.int x2), some (.int x3), none, none]) (st' := [(.int (c8 112)), (.ref 89), (.int x3)]) (h1 := (SH, s)) rfl ?_
  refine Rn_ev srt303 38 rfl rfl rfl (op_ia sh89 (by decide) (k := 112) rfl) ?_
  refine Rn_sq srt303 39 1 (pc' := (if (s.1 89 112) ≤ x3 then 167 else 56)) (ls' := [some (.ref 88), some (.int x1), some (.int x2), some (.int x3), none, none]) (st' := []) (h1 := (SH, s)) rfl (Rn_if (fun h7 => ?_) (fun h7 => ?_))
  · replace hJ := m_ifp h7 hJ
    refine Rn_sq srt303 111 2 (pc' := 2) (ls' := [some (.ref 88), some (.int (x1 + ci 1)), some (.int x2), some (.int x3), none, none]) (st' := []) (h1 := (SH, s)) rfl ?_
    rw [← Option.some.inj hJ] at hC
    exact Rn_weaken (a := [some (.ref 88), some (.int (x1 + ci 1)), none, none, none, none]) (b := [some (.ref 88), some (.int (x1 + ci 1)), some (.int x2), some (.int x3), none, none]) (And.intro rfl (And.intro rfl trivial)) rfl hC
  · replace hJ := m_ifn h7 hJ
    refine Rn_sq srt303 40 5 (pc' := 63) (ls' := [some (.ref 88), some (.int x1), some (.int x2), some (.int x3), none, none]) (st' := [(.int ((ci 3) + x3)), (.ref 89)]) (h1 := (SH, s)) rfl ?_
    obtain ⟨h8, hJ⟩ := m_gn hJ
    refine Rn_ev srt303 45 rfl rfl rfl (op_ia sh89 h8 (k := ((ci 3) + x3).toNatClampNeg) rfl) ?_
    refine Rn_sq srt303 46 2 (pc' := (if (s.1 89 ((ci 3) + x3).toNatClampNeg) = (ci 1) then 68 else 71)) (ls' := [some (.ref 88), some (.int x1), some (.int x2), some (.int x3), none, none]) (st' := []) (h1 := (SH, s)) rfl (Rn_if (fun h9 => ?_) (fun h9 => ?_))
    · replace hJ := m_ifp h9 hJ
      refine Rn_sq srt303 48 1 (pc' := 161) (ls' := [some (.ref 88), some (.int x1), some (.int x2), some (.int x3), none, none]) (st' := []) (h1 := (SH, s)) rfl ?_
      exact (k_X12_laysDoors_161 d hJ hC)
    · replace hJ := m_ifn h9 hJ
      refine Rn_sq srt303 49 7 (pc' := 82) (ls' := [some (.ref 88), some (.int x1), some (.int x2), some (.int x3), none, none]) (st' := [(.int (c8 113)), (.ref 89), (.int x2), (.int x3), (.int (c8 20)), (.ref 88)]) (h1 := (SH, s)) rfl ?_
      refine Rn_ev srt303 56 rfl rfl rfl (op_ia sh89 (by decide) (k := 113) rfl) ?_
      refine Rn_sq srt303 57 5 (pc' := 91) (ls' := [some (.ref 88), some (.int x1), some (.int x2), some (.int x3), none, none]) (st' := [(.int ((c8 27) + x3)), (.ref 89), (.int (s.1 89 113)), (.int x2), (.int x3), (.int (c8 20)), (.ref 88)]) (h1 := (SH, s)) rfl ?_
      obtain ⟨h10, hJ⟩ := m_gn hJ
      refine Rn_ev srt303 62 rfl rfl rfl (op_ia sh89 h10 (k := ((c8 27) + x3).toNatClampNeg) rfl) ?_
      obtain ⟨v13, s12, h11, hJ⟩ := m_b2 hJ
      refine Rn_call srt303 63 rfl rfl rfl ⟨Nat.le_of_ble_eq_true rfl, Nat.le_of_ble_eq_true rfl, rfl, Nat.le_of_ble_eq_true rfl⟩ (k_X12_saysIn (d) h11) (show Rn N xs (d + 4) me303 95 [some (.ref 88), some (.int x1), some (.int x2), some (.int x3), none, none] [(.int v13)] (SH, s12) r from ?_)
      refine Rn_sq srt303 64 9 (pc' := 110) (ls' := [some (.ref 88), some (.int x1), some (.int x2), some (.int x3), some (.int v13), none]) (st' := [(.int (c8 113)), (.ref 89), (.int x2), (.int x3), (.int (c8 24)), (.ref 88), (.int v13)]) (h1 := (SH, s12)) rfl ?_
      refine Rn_ev srt303 73 rfl rfl rfl (op_ia sh89 (by decide) (k := 113) rfl) ?_
      refine Rn_sq srt303 74 5 (pc' := 119) (ls' := [some (.ref 88), some (.int x1), some (.int x2), some (.int x3), some (.int v13), none]) (st' := [(.int ((c8 27) + x3)), (.ref 89), (.int (s12.1 89 113)), (.int x2), (.int x3), (.int (c8 24)), (.ref 88), (.int v13)]) (h1 := (SH, s12)) rfl ?_
      obtain ⟨h14, hJ⟩ := m_gn hJ
      refine Rn_ev srt303 79 rfl rfl rfl (op_ia sh89 h14 (k := ((c8 27) + x3).toNatClampNeg) rfl) ?_
      obtain ⟨v17, s16, h15, hJ⟩ := m_b2 hJ
      refine Rn_call srt303 80 rfl rfl rfl ⟨Nat.le_of_ble_eq_true rfl, Nat.le_of_ble_eq_true rfl, rfl, Nat.le_of_ble_eq_true rfl⟩ (k_X12_saysIn (d) h15) (show Rn N xs (d + 4) me303 123 [some (.ref 88), some (.int x1), some (.int x2), some (.int x3), some (.int v13), none] [(.int v17), (.int v13)] (SH, s16) r from ?_)
      refine Rn_sq srt303 81 2 (pc' := 127) (ls' := [some (.ref 88), some (.int x1), some (.int x2), some (.int x3), some (.int v13), none]) (st' := [(.int (c16 1000)), (.int (v13 * v17))]) (h1 := (SH, s16)) rfl ?_
      refine Rn_ev srt303 83 rfl rfl rfl (op_idiv (by decide)) ?_
      extract_lets +onlyGivenNames v18 at hJ
      refine Rn_sq srt303 84 7 (pc' := 138) (ls' := [some (.ref 88), some (.int x1), some (.int x2), some (.int x3), some (.int v13), some (.int v18)]) (st' := [(.int ((ci 2) * x1)), (.ref 103), (.int ((ci 2) * x1)), (.ref 103)]) (h1 := (SH, s16)) rfl ?_
      obtain ⟨h19, hJ⟩ := m_gn hJ
      refine Rn_ev srt303 91 rfl rfl rfl (op_ia sh103 h19 (k := ((ci 2) * x1).toNatClampNeg) rfl) ?_
      refine Rn_sq srt303 92 2 (pc' := 142) (ls' := [some (.ref 88), some (.int x1), some (.int x2), some (.int x3), some (.int v13), some (.int v18)]) (st' := [(.int ((s16.1 103 ((ci 2) * x1).toNatClampNeg) + v18)), (.int ((ci 2) * x1)), (.ref 103)]) (h1 := (SH, s16)) rfl ?_
      obtain ⟨h20, hJ⟩ := m_gn hJ
      extract_lets +onlyGivenNames s21 at hJ
      refine Rn_ev srt303 94 rfl rfl rfl (op_ias sh103 h20 (k := ((ci 2) * x1).toNatClampNeg) rfl) ?_
      extract_lets +onlyGivenNames v22 at hJ
      refine Rn_sq srt303 95 8 (pc' := 153) (ls' := [some (.ref 88), some (.int x1), some (.int x2), some (.int x3), some (.int v13), some (.int v18)]) (st' := [(.int v22), (.ref 103), (.int v22), (.ref 103)]) (h1 := (SH, s21)) rfl ?_
      obtain ⟨h23, hJ⟩ := m_gn hJ
      refine Rn_ev srt303 103 rfl rfl rfl (op_ia sh103 h23 (k := v22.toNatClampNeg) rfl) ?_
      refine Rn_sq srt303 104 4 (pc' := 160) (ls' := [some (.ref 88), some (.int x1), some (.int x2), some (.int x3), some (.int v13), some (.int v18)]) (st' := [(.int ((s21.1 103 v22.toNatClampNeg) + (v13 - v18))), (.int v22), (.ref 103)]) (h1 := (SH, s21)) rfl ?_
      obtain ⟨h24, hJ⟩ := m_gn hJ
      extract_lets +onlyGivenNames s25 at hJ
      refine Rn_ev srt303 108 rfl rfl rfl (op_ias sh103 h24 (k := v22.toNatClampNeg) rfl) ?_
      exact Rn_weaken (a := [some (.ref 88), some (.int x1), some (.int x2), some (.int x3), none, none]) (b := [some (.ref 88), some (.int x1), some (.int x2), some (.int x3), some (.int v13), some (.int v18)]) (And.intro rfl (And.intro rfl (And.intro rfl (And.intro rfl trivial)))) rfl (k_X12_laysDoors_161 d hJ hC)
def F_X12_laysDoors_L45 (x1 : Int32) (x2 : Int32) (x3 : Int32) (s : mG) : Option ((Int32 × mG) ⊕ (mG)) := whl (fun (v : (Int32 × Int32 × Int32 × mG)) => F_X12_laysDoors_B45 v.1 v.2.1 v.2.2.1 v.2.2.2) (x1, x2, x3, s)
theorem k_X12_laysDoors_L45 {N : Nat} {xs : Nat → Int32} (d : Nat) {r : Option Value × mH} {s : mG} {x1 : Int32} {x2 : Int32} {x3 : Int32} {τ : ((Int32 × mG) ⊕ (mG))} (hJ : F_X12_laysDoors_L45 x1 x2 x3 s = some τ) (hC : (C_X12_laysDoors_2 N xs d r (fun τ => r = (none, (SH, τ)))) τ) : Rn N xs (d + 4) me303 45 [some (.ref 88), some (.int x1), some (.int x2), some (.int x3), none, none] [] (SH, s) r :=
  whl_link (P := fun (v : (Int32 × Int32 × Int32 × mG)) => Rn N xs (d + 4) me303 45 [some (.ref 88), some (.int v.1), some (.int v.2.1), some (.int v.2.2.1), none, none] [] (SH, v.2.2.2) r) (C := (C_X12_laysDoors_45 N xs d r (C_X12_laysDoors_2 N xs d r (fun τ => r = (none, (SH, τ)))))) (fun v τ h1 h2 => k_X12_laysDoors_B45 d h1 h2) (fun _ h => h) (fun _ h => h) _ _ hJ hC
def F_X12_laysDoors_B2 (x1 : Int32) (s : mG) : Option ((Int32 × mG) ⊕ (mG)) :=
  if (c8 24) ≤ x1 then
    some (Sum.inr s)
  else
    if ((ci 2) * x1) < 0 ∨ 48 ≤ ((ci 2) * x1).toNatClampNeg then none else
    let s3 : mG := (mu s.1 103 ((ci 2) * x1).toNatClampNeg (ci 0), s.2)
    if (((ci 2) * x1) + (ci 1)) < 0 ∨ 48 ≤ (((ci 2) * x1) + (ci 1)).toNatClampNeg then none else
    let s5 : mG := (mu s3.1 103 (((ci 2) * x1) + (ci 1)).toNatClampNeg (ci 0), s3.2)
    let v6 : Int32 := ((((s5.1 89 0) / (c8 24)) * (c8 24)) + x1)
    F_X12_laysDoors_L45 x1 v6 (ci 0) s5
set_option maxRecDepth 4000 in
theorem k_X12_laysDoors_B2 {N : Nat} {xs : Nat → Int32} (d : Nat) {r : Option Value × mH} {s : mG} {x1 : Int32} {τ : ((Int32 × mG) ⊕ (mG))} (hJ : F_X12_laysDoors_B2 x1 s = some τ) (hC : (C_X12_laysDoors_2 N xs d r (fun τ => r = (none, (SH, τ)))) τ) : Rn N xs (d + 4) me303 2 [some (.ref 88), some (.int x1), none, none, none, none] [] (SH, s) r := by
  unfold F_X12_laysDoors_B2 at hJ
  refine Rn_sq srt303 2 3 (pc' := (if (c8 24) ≤ x1 then 173 else 8)) (ls' := [some (.ref 88), some (.int x1), none, none, none, none]) (st' := []) (h1 := (SH, s)) rfl (Rn_if (fun h1 => ?_) (fun h1 => ?_))
  · replace hJ := m_ifp h1 hJ
    rw [← Option.some.inj hJ] at hC
    have hC : r = (none, (SH, s)) := hC
    subst hC
    exact Rn_ret srt303 113 rfl rfl rfl
  · replace hJ := m_ifn h1 hJ
    refine Rn_sq srt303 5 6 (pc' := 16) (ls' := [some (.ref 88), some (.int x1), none, none, none, none]) (st' := [(.int (ci 0)), (.int ((ci 2) * x1)), (.ref 103)]) (h1 := (SH, s)) rfl ?_
    obtain ⟨h2, hJ⟩ := m_gn hJ
    extract_lets +onlyGivenNames s3 at hJ
    refine Rn_ev srt303 11 rfl rfl rfl (op_ias sh103 h2 (k := ((ci 2) * x1).toNatClampNeg) rfl) ?_
    refine Rn_sq srt303 12 8 (pc' := 27) (ls' := [some (.ref 88), some (.int x1), none, none, none, none]) (st' := [(.int (ci 0)), (.int (((ci 2) * x1) + (ci 1))), (.ref 103)]) (h1 := (SH, s3)) rfl ?_
    obtain ⟨h4, hJ⟩ := m_gn hJ
    extract_lets +onlyGivenNames s5 at hJ
    refine Rn_ev srt303 20 rfl rfl rfl (op_ias sh103 h4 (k := (((ci 2) * x1) + (ci 1)).toNatClampNeg) rfl) ?_
    refine Rn_sq srt303 21 3 (pc' := 33) (ls' := [some (.ref 88), some (.int x1), none, none, none, none]) (st' := [(.int (ci 0)), (.ref 89)]) (h1 := (SH, s5)) rfl ?_
    refine Rn_ev srt303 24 rfl rfl rfl (op_ia sh89 (by decide) (k := 0) rfl) ?_
    refine Rn_sq srt303 25 1 (pc' := 36) (ls' := [some (.ref 88), some (.int x1), none, none, none, none]) (st' := [(.int (c8 24)), (.int (s5.1 89 0))]) (h1 := (SH, s5)) rfl ?_
    refine Rn_ev srt303 26 rfl rfl rfl (op_idiv (by decide)) ?_
    extract_lets +onlyGivenNames v6 at hJ
    refine Rn_sq srt303 27 7 (pc' := 45) (ls' := [some (.ref 88), some (.int x1), some (.int v6), some (.int (ci 0)), none, none]) (st' := []) (h1 := (SH, s5)) rfl ?_
    exact (k_X12_laysDoors_L45 d hJ hC)
def F_X12_laysDoors_L2 (x1 : Int32) (s : mG) : Option (mG) := whl (fun (v : (Int32 × mG)) => F_X12_laysDoors_B2 v.1 v.2) (x1, s)
theorem k_X12_laysDoors_L2 {N : Nat} {xs : Nat → Int32} (d : Nat) {r : Option Value × mH} {s : mG} {x1 : Int32} {τ : (mG)} (hJ : F_X12_laysDoors_L2 x1 s = some τ) (hC : (fun τ => r = (none, (SH, τ))) τ) : Rn N xs (d + 4) me303 2 [some (.ref 88), some (.int x1), none, none, none, none] [] (SH, s) r :=
  whl_link (P := fun (v : (Int32 × mG)) => Rn N xs (d + 4) me303 2 [some (.ref 88), some (.int v.1), none, none, none, none] [] (SH, v.2) r) (C := (C_X12_laysDoors_2 N xs d r (fun τ => r = (none, (SH, τ))))) (fun v τ h1 h2 => k_X12_laysDoors_B2 d h1 h2) (fun _ h => h) (fun _ h => h) _ _ hJ hC
def F_X12_laysDoors (s : mG) : Option (mG) :=
  F_X12_laysDoors_L2 (ci 0) s
set_option maxRecDepth 4000 in
theorem k_X12_laysDoors_r {N : Nat} {xs : Nat → Int32} (d : Nat) {r : Option Value × mH} {s : mG} {τ : (mG)} (hJ : F_X12_laysDoors s = some τ) (hC : (fun τ => r = (none, (SH, τ))) τ) : Rn N xs (d + 4) me303 0 [some (.ref 88), none, none, none, none, none] [] (SH, s) r := by
  unfold F_X12_laysDoors at hJ
  refine Rn_sq srt303 0 2 (pc' := 2) (ls' := [some (.ref 88), some (.int (ci 0)), none, none, none, none]) (st' := []) (h1 := (SH, s)) rfl ?_
  exact (k_X12_laysDoors_L2 d hJ hC)
theorem k_X12_laysDoors {N : Nat} {xs : Nat → Int32} (d : Nat) {s : mG} {τ : (mG)} (hJ : F_X12_laysDoors s = some τ) : Rn N xs (d + 4) me303 0 [some (.ref 88), none, none, none, none, none] [] (SH, s) (none, (SH, τ)) := k_X12_laysDoors_r d hJ rfl
/-! IsHeInModel.mostBy(III)I -/
theorem srt304 : m_srt mc304 = true := by decide +kernel
def F_X12_mostBy (s : mG) (a1 : Int32) (a2 : Int32) (a3 : Int32) : Option (Int32) :=
  if (((ci 2) * (a1 + (ci 1))) + a2) < 0 ∨ 50 ≤ (((ci 2) * (a1 + (ci 1))) + a2).toNatClampNeg then none else
  if ((((ci 2) * (a1 + (ci 1))) + (ci 1)) - a2) < 0 ∨ 50 ≤ ((((ci 2) * (a1 + (ci 1))) + (ci 1)) - a2).toNatClampNeg then none else
  b1 (F_X12_greater s (s.1 104 (((ci 2) * (a1 + (ci 1))) + a2).toNatClampNeg) ((s.1 104 ((((ci 2) * (a1 + (ci 1))) + (ci 1)) - a2).toNatClampNeg) - a3)) fun v4 =>
  some v4
set_option maxRecDepth 4000 in
theorem k_X12_mostBy_r {N : Nat} {xs : Nat → Int32} (d : Nat) {r : Option Value × mH} {s : mG} {a1 : Int32} {a2 : Int32} {a3 : Int32} {τ : (Int32)} (hJ : F_X12_mostBy s a1 a2 a3 = some τ) (hC : (fun τ => r = (some (.int τ), (SH, s))) τ) : Rn N xs (d + 1) me304 0 [some (.ref 88), some (.int a1), some (.int a2), some (.int a3)] [] (SH, s) r := by
  unfold F_X12_mostBy at hJ
  refine Rn_sq srt304 0 9 (pc' := 11) (ls' := [some (.ref 88), some (.int a1), some (.int a2), some (.int a3)]) (st' := [(.int (((ci 2) * (a1 + (ci 1))) + a2)), (.ref 104)]) (h1 := (SH, s)) rfl ?_
  obtain ⟨h1, hJ⟩ := m_gn hJ
  refine Rn_ev srt304 9 rfl rfl rfl (op_ia sh104 h1 (k := (((ci 2) * (a1 + (ci 1))) + a2).toNatClampNeg) rfl) ?_
  refine Rn_sq srt304 10 11 (pc' := 25) (ls' := [some (.ref 88), some (.int a1), some (.int a2), some (.int a3)]) (st' := [(.int ((((ci 2) * (a1 + (ci 1))) + (ci 1)) - a2)), (.ref 104), (.int (s.1 104 (((ci 2) * (a1 + (ci 1))) + a2).toNatClampNeg))]) (h1 := (SH, s)) rfl ?_
  obtain ⟨h2, hJ⟩ := m_gn hJ
  refine Rn_ev srt304 21 rfl rfl rfl (op_ia sh104 h2 (k := ((((ci 2) * (a1 + (ci 1))) + (ci 1)) - a2).toNatClampNeg) rfl) ?_
  refine Rn_sq srt304 22 2 (pc' := 28) (ls' := [some (.ref 88), some (.int a1), some (.int a2), some (.int a3)]) (st' := [(.int ((s.1 104 ((((ci 2) * (a1 + (ci 1))) + (ci 1)) - a2).toNatClampNeg) - a3)), (.int (s.1 104 (((ci 2) * (a1 + (ci 1))) + a2).toNatClampNeg))]) (h1 := (SH, s)) rfl ?_
  obtain ⟨v4, h3, hJ⟩ := m_b1 hJ
  refine Rn_call srt304 24 rfl rfl rfl ⟨Nat.le_of_ble_eq_true rfl, Nat.le_of_ble_eq_true rfl, rfl, Nat.le_of_ble_eq_true rfl⟩ (k_X12_greater (d) h3) (show Rn N xs (d + 1) me304 31 [some (.ref 88), some (.int a1), some (.int a2), some (.int a3)] [(.int v4)] (SH, s) r from ?_)
  rw [← Option.some.inj hJ] at hC
  have hC : r = (some (.int v4), (SH, s)) := hC
  subst hC
  exact Rn_ret srt304 25 rfl rfl rfl
theorem k_X12_mostBy {N : Nat} {xs : Nat → Int32} (d : Nat) {s : mG} {a1 : Int32} {a2 : Int32} {a3 : Int32} {τ : (Int32)} (hJ : F_X12_mostBy s a1 a2 a3 = some τ) : Rn N xs (d + 1) me304 0 [some (.ref 88), some (.int a1), some (.int a2), some (.int a3)] [] (SH, s) (some (.int τ), (SH, s)) := k_X12_mostBy_r d hJ rfl
/-! IsHeInModel.stands(II)I -/
theorem srt305 : m_srt mc305 = true := by decide +kernel
def F_X12_stands_26 (s : mG) : Option (Int32 × mG) :=
  some ((ci (-1)), s)
set_option maxRecDepth 4000 in
theorem k_X12_stands_26 {N : Nat} {xs : Nat → Int32} (d : Nat) {r : Option Value × mH} {s : mG} {τ : (Int32 × mG)} (hJ : F_X12_stands_26 s = some τ) (hC : (fun τ => r = (some (.int τ.1), (SH, τ.2))) τ) : Rn N xs (d + 5) me305 26 [none, none, none, none, none, none, none] [] (SH, s) r := by
  unfold F_X12_stands_26 at hJ
  refine Rn_sq srt305 12 1 (pc' := 27) (ls' := [none, none, none, none, none, none, none]) (st' := [(.int (ci (-1)))]) (h1 := (SH, s)) rfl ?_
  rw [← Option.some.inj hJ] at hC
  have hC : r = (some (.int (ci (-1))), (SH, s)) := hC
  subst hC
  exact Rn_ret srt305 13 rfl rfl rfl
def C_X12_stands_51 (N : Nat) (xs : Nat → Int32) (d : Nat) (r : Option Value × mH) (C : (Int32 × mG) → Prop) : ((Int32 × Int32 × Int32 × mG) ⊕ (Int32 × mG)) → Prop
  | .inl v => Rn N xs (d + 5) me305 51 [some (.ref 88), some (.int v.1), some (.int v.2.1), some (.int v.2.2.1), none, none, none] [] (SH, v.2.2.2) r
  | .inr a => C a
def C_X12_stands_161 (N : Nat) (xs : Nat → Int32) (d : Nat) (r : Option Value × mH) (C : (Int32 × mG) → Prop) : ((Int32 × Int32 × Int32 × Int32 × mG) ⊕ (Int32 × mG)) → Prop
  | .inl v => Rn N xs (d + 5) me305 161 [some (.ref 88), some (.int v.1), some (.int v.2.1), some (.int v.2.2.1), some (.int v.2.2.2.1), none, none] [] (SH, v.2.2.2.2) r
  | .inr a => C a
def F_X12_stands_223 (x1 : Int32) (x2 : Int32) (x3 : Int32) (x4 : Int32) (s : mG) : Option ((Int32 × Int32 × Int32 × Int32 × mG) ⊕ (Int32 × mG)) :=
  some (Sum.inl (x1, x2, x3, (x4 + ci 1), s))
set_option maxRecDepth 4000 in
theorem k_X12_stands_223 {N : Nat} {xs : Nat → Int32} (d : Nat) {r : Option Value × mH} {s : mG} {x1 : Int32} {x2 : Int32} {x3 : Int32} {x4 : Int32} {τ : ((Int32 × Int32 × Int32 × Int32 × mG) ⊕ (Int32 × mG))} (hJ : F_X12_stands_223 x1 x2 x3 x4 s = some τ) (hC : (C_X12_stands_161 N xs d r (fun τ => r = (some (.int τ.1), (SH, τ.2)))) τ) : Rn N xs (d + 5) me305 223 [some (.ref 88), some (.int x1), some (.int x2), some (.int x3), some (.int x4), none, none] [] (SH, s) r := by
  unfold F_X12_stands_223 at hJ
  refine Rn_sq srt305 133 2 (pc' := 161) (ls' := [some (.ref 88), some (.int x1), some (.int x2), some (.int x3), some (.int (x4 + ci 1)), none, none]) (st' := []) (h1 := (SH, s)) rfl ?_
  rw [← Option.some.inj hJ] at hC
  exact hC
def F_X12_stands_219 (x1 : Int32) (x2 : Int32) (x3 : Int32) (x4 : Int32) (s : mG) : Option ((Int32 × Int32 × Int32 × Int32 × mG) ⊕ (Int32 × mG)) :=
  F_X12_stands_223 x1 x2 ((ci 1) - x3) x4 s
set_option maxRecDepth 4000 in
theorem k_X12_stands_219 {N : Nat} {xs : Nat → Int32} (d : Nat) {r : Option Value × mH} {s : mG} {x1 : Int32} {x2 : Int32} {x3 : Int32} {x4 : Int32} {τ : ((Int32 × Int32 × Int32 × Int32 × mG) ⊕ (Int32 × mG))} (hJ : F_X12_stands_219 x1 x2 x3 x4 s = some τ) (hC : (C_X12_stands_161 N xs d r (fun τ => r = (some (.int τ.1), (SH, τ.2)))) τ) : Rn N xs (d + 5) me305 219 [some (.ref 88), some (.int x1), some (.int x2), some (.int x3), some (.int x4), none, none] [] (SH, s) r := by
  unfold F_X12_stands_219 at hJ
  refine Rn_sq srt305 129 4 (pc' := 223) (ls' := [some (.ref 88), some (.int x1), some (.int x2), some (.int ((ci 1) - x3)), some (.int x4), none, none]) (st' := []) (h1 := (SH, s)) rfl ?_
  exact (k_X12_stands_223 d hJ hC)
def F_X12_stands_B161 (x1 : Int32) (x2 : Int32) (x3 : Int32) (x4 : Int32) (s : mG) : Option ((Int32 × Int32 × Int32 × Int32 × mG) ⊕ (Int32 × mG)) :=
  if (x2 - (c8 10)) < x4 then
    some (Sum.inr (x3, s))
  else
    if (((ci 2) * x4) + x3) < 0 ∨ 50 ≤ (((ci 2) * x4) + x3).toNatClampNeg then none else
    let v16 : Int32 := (s.1 104 (((ci 2) * x4) + x3).toNatClampNeg)
    if ((((ci 2) * x4) + (ci 1)) - x3) < 0 ∨ 50 ≤ ((((ci 2) * x4) + (ci 1)) - x3).toNatClampNeg then none else
    let v18 : Int32 := ((s.1 104 ((((ci 2) * x4) + (ci 1)) - x3).toNatClampNeg) - x1)
    if v16 < v18 then
      F_X12_stands_219 x1 x2 x3 x4 s
    else
      if v18 = v16 then
        if x3 = (ci 1) then
          F_X12_stands_219 x1 x2 x3 x4 s
        else
          F_X12_stands_223 x1 x2 x3 x4 s
      else
        F_X12_stands_223 x1 x2 x3 x4 s
set_option maxRecDepth 4000 in
theorem k_X12_stands_B161 {N : Nat} {xs : Nat → Int32} (d : Nat) {r : Option Value × mH} {s : mG} {x1 : Int32} {x2 : Int32} {x3 : Int32} {x4 : Int32} {τ : ((Int32 × Int32 × Int32 × Int32 × mG) ⊕ (Int32 × mG))} (hJ : F_X12_stands_B161 x1 x2 x3 x4 s = some τ) (hC : (C_X12_stands_161 N xs d r (fun τ => r = (some (.int τ.1), (SH, τ.2)))) τ) : Rn N xs (d + 5) me305 161 [some (.ref 88), some (.int x1), some (.int x2), some (.int x3), some (.int x4), none, none] [] (SH, s) r := by
  unfold F_X12_stands_B161 at hJ
  refine Rn_sq srt305 93 5 (pc' := (if (x2 - (c8 10)) < x4 then 229 else 170)) (ls' := [some (.ref 88), some (.int x1), some (.int x2), some (.int x3), some (.int x4), none, none]) (st' := []) (h1 := (SH, s)) rfl (Rn_if (fun h14 => ?_) (fun h14 => ?_))
  · replace hJ := m_ifp h14 hJ
    refine Rn_sq srt305 135 1 (pc' := 230) (ls' := [some (.ref 88), some (.int x1), some (.int x2), some (.int x3), some (.int x4), none, none]) (st' := [(.int x3)]) (h1 := (SH, s)) rfl ?_
    rw [← Option.some.inj hJ] at hC
    have hC : r = (some (.int x3), (SH, s)) := hC
    subst hC
    exact Rn_ret srt305 136 rfl rfl rfl
  · replace hJ := m_ifn h14 hJ
    refine Rn_sq srt305 98 7 (pc' := 180) (ls' := [some (.ref 88), some (.int x1), some (.int x2), some (.int x3), some (.int x4), none, none]) (st' := [(.int (((ci 2) * x4) + x3)), (.ref 104)]) (h1 := (SH, s)) rfl ?_
    obtain ⟨h15, hJ⟩ := m_gn hJ
    refine Rn_ev srt305 105 rfl rfl rfl (op_ia sh104 h15 (k := (((ci 2) * x4) + x3).toNatClampNeg) rfl) ?_
    extract_lets +onlyGivenNames v16 at hJ
    refine Rn_sq srt305 106 10 (pc' := 195) (ls' := [some (.ref 88), some (.int x1), some (.int x2), some (.int x3), some (.int x4), some (.int v16), none]) (st' := [(.int ((((ci 2) * x4) + (ci 1)) - x3)), (.ref 104)]) (h1 := (SH, s)) rfl ?_
    obtain ⟨h17, hJ⟩ := m_gn hJ
    refine Rn_ev srt305 116 rfl rfl rfl (op_ia sh104 h17 (k := ((((ci 2) * x4) + (ci 1)) - x3).toNatClampNeg) rfl) ?_
    extract_lets +onlyGivenNames v18 at hJ
    refine Rn_sq srt305 117 6 (pc' := (if v16 < v18 then 219 else 207)) (ls' := [some (.ref 88), some (.int x1), some (.int x2), some (.int x3), some (.int x4), some (.int v16), some (.int v18)]) (st' := []) (h1 := (SH, s)) rfl (Rn_if (fun h19 => ?_) (fun h19 => ?_))
    · replace hJ := m_ifp h19 hJ
      exact Rn_weaken (a := [some (.ref 88), some (.int x1), some (.int x2), some (.int x3), some (.int x4), none, none]) (b := [some (.ref 88), some (.int x1), some (.int x2), some (.int x3), some (.int x4), some (.int v16), some (.int v18)]) (And.intro rfl (And.intro rfl (And.intro rfl (And.intro rfl (And.intro rfl trivial))))) rfl (k_X12_stands_219 d hJ hC)
    · replace hJ := m_ifn h19 hJ
      refine Rn_sq srt305 123 3 (pc' := (if v18 = v16 then 214 else 223)) (ls' := [some (.ref 88), some (.int x1), some (.int x2), some (.int x3), some (.int x4), some (.int v16), some (.int v18)]) (st' := []) (h1 := (SH, s)) rfl (Rn_if (fun h20 => ?_) (fun h20 => ?_))
      · replace hJ := m_ifp h20 hJ
        refine Rn_sq srt305 126 3 (pc' := (if x3 = (ci 1) then 219 else 223)) (ls' := [some (.ref 88), some (.int x1), some (.int x2), some (.int x3), some (.int x4), some (.int v16), some (.int v18)]) (st' := []) (h1 := (SH, s)) rfl (Rn_if (fun h21 => ?_) (fun h21 => ?_))
        · replace hJ := m_ifp h21 hJ
          exact Rn_weaken (a := [some (.ref 88), some (.int x1), some (.int x2), some (.int x3), some (.int x4), none, none]) (b := [some (.ref 88), some (.int x1), some (.int x2), some (.int x3), some (.int x4), some (.int v16), some (.int v18)]) (And.intro rfl (And.intro rfl (And.intro rfl (And.intro rfl (And.intro rfl trivial))))) rfl (k_X12_stands_219 d hJ hC)
        · replace hJ := m_ifn h21 hJ
          exact Rn_weaken (a := [some (.ref 88), some (.int x1), some (.int x2), some (.int x3), some (.int x4), none, none]) (b := [some (.ref 88), some (.int x1), some (.int x2), some (.int x3), some (.int x4), some (.int v16), some (.int v18)]) (And.intro rfl (And.intro rfl (And.intro rfl (And.intro rfl (And.intro rfl trivial))))) rfl (k_X12_stands_223 d hJ hC)
      · replace hJ := m_ifn h20 hJ
        exact Rn_weaken (a := [some (.ref 88), some (.int x1), some (.int x2), some (.int x3), some (.int x4), none, none]) (b := [some (.ref 88), some (.int x1), some (.int x2), some (.int x3), some (.int x4), some (.int v16), some (.int v18)]) (And.intro rfl (And.intro rfl (And.intro rfl (And.intro rfl (And.intro rfl trivial))))) rfl (k_X12_stands_223 d hJ hC)
def F_X12_stands_L161 (x1 : Int32) (x2 : Int32) (x3 : Int32) (x4 : Int32) (s : mG) : Option (Int32 × mG) := whl (fun (v : (Int32 × Int32 × Int32 × Int32 × mG)) => F_X12_stands_B161 v.1 v.2.1 v.2.2.1 v.2.2.2.1 v.2.2.2.2) (x1, x2, x3, x4, s)
theorem k_X12_stands_L161 {N : Nat} {xs : Nat → Int32} (d : Nat) {r : Option Value × mH} {s : mG} {x1 : Int32} {x2 : Int32} {x3 : Int32} {x4 : Int32} {τ : (Int32 × mG)} (hJ : F_X12_stands_L161 x1 x2 x3 x4 s = some τ) (hC : (fun τ => r = (some (.int τ.1), (SH, τ.2))) τ) : Rn N xs (d + 5) me305 161 [some (.ref 88), some (.int x1), some (.int x2), some (.int x3), some (.int x4), none, none] [] (SH, s) r :=
  whl_link (P := fun (v : (Int32 × Int32 × Int32 × Int32 × mG)) => Rn N xs (d + 5) me305 161 [some (.ref 88), some (.int v.1), some (.int v.2.1), some (.int v.2.2.1), some (.int v.2.2.2.1), none, none] [] (SH, v.2.2.2.2) r) (C := (C_X12_stands_161 N xs d r (fun τ => r = (some (.int τ.1), (SH, τ.2))))) (fun v τ h1 h2 => k_X12_stands_B161 d h1 h2) (fun _ h => h) (fun _ h => h) _ _ hJ hC
def F_X12_stands_157 (x1 : Int32) (x2 : Int32) (y0 : Int32) (s : mG) : Option (Int32 × mG) :=
  F_X12_stands_L161 x1 x2 y0 (ci 1) s
set_option maxRecDepth 4000 in
theorem k_X12_stands_157 {N : Nat} {xs : Nat → Int32} (d : Nat) {r : Option Value × mH} {s : mG} {x1 : Int32} {x2 : Int32} {y0 : Int32} {τ : (Int32 × mG)} (hJ : F_X12_stands_157 x1 x2 y0 s = some τ) (hC : (fun τ => r = (some (.int τ.1), (SH, τ.2))) τ) : Rn N xs (d + 5) me305 157 [some (.ref 88), some (.int x1), some (.int x2), none, none, none, none] [(.int y0)] (SH, s) r := by
  unfold F_X12_stands_157 at hJ
  refine Rn_sq srt305 90 3 (pc' := 161) (ls' := [some (.ref 88), some (.int x1), some (.int x2), some (.int y0), some (.int (ci 1)), none, none]) (st' := []) (h1 := (SH, s)) rfl ?_
  exact (k_X12_stands_L161 d hJ hC)
def C_X12_stands_58 (N : Nat) (xs : Nat → Int32) (d : Nat) (r : Option Value × mH) (C : ((Int32 × Int32 × Int32 × mG) ⊕ (Int32 × mG)) → Prop) : ((Int32 × Int32 × Int32 × Int32 × mG) ⊕ ((Int32 × Int32 × Int32 × mG) ⊕ (Int32 × mG))) → Prop
  | .inl v => Rn N xs (d + 5) me305 58 [some (.ref 88), some (.int v.1), some (.int v.2.1), some (.int v.2.2.1), some (.int v.2.2.2.1), none, none] [] (SH, v.2.2.2.2) r
  | .inr a => C a
def F_X12_stands_103 (x1 : Int32) (x2 : Int32) (x3 : Int32) (x4 : Int32) (y1 : Int32) (y2 : Int32) (y3 : Int32) (s : mG) : Option ((Int32 × Int32 × Int32 × Int32 × mG) ⊕ ((Int32 × Int32 × Int32 × mG) ⊕ (Int32 × mG))) :=
  if y1 < 0 ∨ 50 ≤ y1.toNatClampNeg then none else
  let s26 : mG := (mu s.1 104 y1.toNatClampNeg (y2 + y3), s.2)
  some (Sum.inl (x1, x2, x3, (x4 + ci 1), s26))
set_option maxRecDepth 4000 in
theorem k_X12_stands_103 {N : Nat} {xs : Nat → Int32} (d : Nat) {r : Option Value × mH} {s : mG} {x1 : Int32} {x2 : Int32} {x3 : Int32} {x4 : Int32} {y1 : Int32} {y2 : Int32} {y3 : Int32} {τ : ((Int32 × Int32 × Int32 × Int32 × mG) ⊕ ((Int32 × Int32 × Int32 × mG) ⊕ (Int32 × mG)))} (hJ : F_X12_stands_103 x1 x2 x3 x4 y1 y2 y3 s = some τ) (hC : (C_X12_stands_58 N xs d r (C_X12_stands_51 N xs d r (fun τ => r = (some (.int τ.1), (SH, τ.2))))) τ) : Rn N xs (d + 5) me305 103 [some (.ref 88), some (.int x1), some (.int x2), some (.int x3), some (.int x4), none, none] [(.int y3), (.int y2), (.int y1), (.ref 104)] (SH, s) r := by
  unfold F_X12_stands_103 at hJ
  refine Rn_sq srt305 60 1 (pc' := 104) (ls' := [some (.ref 88), some (.int x1), some (.int x2), some (.int x3), some (.int x4), none, none]) (st' := [(.int (y2 + y3)), (.int y1), (.ref 104)]) (h1 := (SH, s)) rfl ?_
  obtain ⟨h25, hJ⟩ := m_gn hJ
  extract_lets +onlyGivenNames s26 at hJ
  refine Rn_ev srt305 61 rfl rfl rfl (op_ias sh104 h25 (k := y1.toNatClampNeg) rfl) ?_
  refine Rn_sq srt305 62 2 (pc' := 58) (ls' := [some (.ref 88), some (.int x1), some (.int x2), some (.int x3), some (.int (x4 + ci 1)), none, none]) (st' := []) (h1 := (SH, s26)) rfl ?_
  rw [← Option.some.inj hJ] at hC
  exact hC
def F_X12_stands_B58 (x1 : Int32) (x2 : Int32) (x3 : Int32) (x4 : Int32) (s : mG) : Option ((Int32 × Int32 × Int32 × Int32 × mG) ⊕ ((Int32 × Int32 × Int32 × mG) ⊕ (Int32 × mG))) :=
  if (ci 2) ≤ x4 then
    some (Sum.inr (Sum.inl (x1, x2, (x3 + ci (-1)), s)))
  else
    if (((ci 2) * x3) + x4) < 0 ∨ 48 ≤ (((ci 2) * x3) + x4).toNatClampNeg then none else
    if x3 = (c8 23) then
      F_X12_stands_103 x1 x2 x3 x4 (((ci 2) * x3) + x4) (s.1 103 (((ci 2) * x3) + x4).toNatClampNeg) (ci 0) s
    else
      b1 (F_X12_mostBy s x3 x4 x1) fun v28 =>
      F_X12_stands_103 x1 x2 x3 x4 (((ci 2) * x3) + x4) (s.1 103 (((ci 2) * x3) + x4).toNatClampNeg) v28 s
set_option maxRecDepth 4000 in
theorem k_X12_stands_B58 {N : Nat} {xs : Nat → Int32} (d : Nat) {r : Option Value × mH} {s : mG} {x1 : Int32} {x2 : Int32} {x3 : Int32} {x4 : Int32} {τ : ((Int32 × Int32 × Int32 × Int32 × mG) ⊕ ((Int32 × Int32 × Int32 × mG) ⊕ (Int32 × mG)))} (hJ : F_X12_stands_B58 x1 x2 x3 x4 s = some τ) (hC : (C_X12_stands_58 N xs d r (C_X12_stands_51 N xs d r (fun τ => r = (some (.int τ.1), (SH, τ.2))))) τ) : Rn N xs (d + 5) me305 58 [some (.ref 88), some (.int x1), some (.int x2), some (.int x3), some (.int x4), none, none] [] (SH, s) r := by
  unfold F_X12_stands_B58 at hJ
  refine Rn_sq srt305 32 3 (pc' := (if (ci 2) ≤ x4 then 111 else 64)) (ls' := [some (.ref 88), some (.int x1), some (.int x2), some (.int x3), some (.int x4), none, none]) (st' := []) (h1 := (SH, s)) rfl (Rn_if (fun h22 => ?_) (fun h22 => ?_))
  · replace hJ := m_ifp h22 hJ
    refine Rn_sq srt305 64 2 (pc' := 51) (ls' := [some (.ref 88), some (.int x1), some (.int x2), some (.int (x3 + ci (-1))), some (.int x4), none, none]) (st' := []) (h1 := (SH, s)) rfl ?_
    rw [← Option.some.inj hJ] at hC
    exact Rn_weaken (a := [some (.ref 88), some (.int x1), some (.int x2), some (.int (x3 + ci (-1))), none, none, none]) (b := [some (.ref 88), some (.int x1), some (.int x2), some (.int (x3 + ci (-1))), some (.int x4), none, none]) (And.intro rfl (And.intro rfl (And.intro rfl (And.intro rfl trivial)))) rfl hC
  · replace hJ := m_ifn h22 hJ
    refine Rn_sq srt305 35 14 (pc' := 84) (ls' := [some (.ref 88), some (.int x1), some (.int x2), some (.int x3), some (.int x4), none, none]) (st' := [(.int (((ci 2) * x3) + x4)), (.ref 103), (.int (((ci 2) * x3) + x4)), (.ref 104)]) (h1 := (SH, s)) rfl ?_
    obtain ⟨h23, hJ⟩ := m_gn hJ
    refine Rn_ev srt305 49 rfl rfl rfl (op_ia sh103 h23 (k := (((ci 2) * x3) + x4).toNatClampNeg) rfl) ?_
    refine Rn_sq srt305 50 3 (pc' := (if x3 = (c8 23) then 91 else 95)) (ls' := [some (.ref 88), some (.int x1), some (.int x2), some (.int x3), some (.int x4), none, none]) (st' := [(.int (s.1 103 (((ci 2) * x3) + x4).toNatClampNeg)), (.int (((ci 2) * x3) + x4)), (.ref 104)]) (h1 := (SH, s)) rfl (Rn_if (fun h24 => ?_) (fun h24 => ?_))
    · replace hJ := m_ifp h24 hJ
      refine Rn_sq srt305 53 2 (pc' := 103) (ls' := [some (.ref 88), some (.int x1), some (.int x2), some (.int x3), some (.int x4), none, none]) (st' := [(.int (ci 0)), (.int (s.1 103 (((ci 2) * x3) + x4).toNatClampNeg)), (.int (((ci 2) * x3) + x4)), (.ref 104)]) (h1 := (SH, s)) rfl ?_
      exact (k_X12_stands_103 d hJ hC)
    · replace hJ := m_ifn h24 hJ
      refine Rn_sq srt305 55 4 (pc' := 100) (ls' := [some (.ref 88), some (.int x1), some (.int x2), some (.int x3), some (.int x4), none, none]) (st' := [(.int x1), (.int x4), (.int x3), (.ref 88), (.int (s.1 103 (((ci 2) * x3) + x4).toNatClampNeg)), (.int (((ci 2) * x3) + x4)), (.ref 104)]) (h1 := (SH, s)) rfl ?_
      obtain ⟨v28, h27, hJ⟩ := m_b1 hJ
      refine Rn_call srt305 59 rfl rfl rfl ⟨Nat.le_of_ble_eq_true rfl, Nat.le_of_ble_eq_true rfl, rfl, Nat.le_of_ble_eq_true rfl⟩ (k_X12_mostBy (d + 3) h27) (show Rn N xs (d + 5) me305 103 [some (.ref 88), some (.int x1), some (.int x2), some (.int x3), some (.int x4), none, none] [(.int v28), (.int (s.1 103 (((ci 2) * x3) + x4).toNatClampNeg)), (.int (((ci 2) * x3) + x4)), (.ref 104)] (SH, s) r from ?_)
      exact (k_X12_stands_103 d hJ hC)
def F_X12_stands_L58 (x1 : Int32) (x2 : Int32) (x3 : Int32) (x4 : Int32) (s : mG) : Option ((Int32 × Int32 × Int32 × mG) ⊕ (Int32 × mG)) := whl (fun (v : (Int32 × Int32 × Int32 × Int32 × mG)) => F_X12_stands_B58 v.1 v.2.1 v.2.2.1 v.2.2.2.1 v.2.2.2.2) (x1, x2, x3, x4, s)
theorem k_X12_stands_L58 {N : Nat} {xs : Nat → Int32} (d : Nat) {r : Option Value × mH} {s : mG} {x1 : Int32} {x2 : Int32} {x3 : Int32} {x4 : Int32} {τ : ((Int32 × Int32 × Int32 × mG) ⊕ (Int32 × mG))} (hJ : F_X12_stands_L58 x1 x2 x3 x4 s = some τ) (hC : (C_X12_stands_51 N xs d r (fun τ => r = (some (.int τ.1), (SH, τ.2)))) τ) : Rn N xs (d + 5) me305 58 [some (.ref 88), some (.int x1), some (.int x2), some (.int x3), some (.int x4), none, none] [] (SH, s) r :=
  whl_link (P := fun (v : (Int32 × Int32 × Int32 × Int32 × mG)) => Rn N xs (d + 5) me305 58 [some (.ref 88), some (.int v.1), some (.int v.2.1), some (.int v.2.2.1), some (.int v.2.2.2.1), none, none] [] (SH, v.2.2.2.2) r) (C := (C_X12_stands_58 N xs d r (C_X12_stands_51 N xs d r (fun τ => r = (some (.int τ.1), (SH, τ.2)))))) (fun v τ h1 h2 => k_X12_stands_B58 d h1 h2) (fun _ h => h) (fun _ h => h) _ _ hJ hC
def F_X12_stands_B51 (x1 : Int32) (x2 : Int32) (x3 : Int32) (s : mG) : Option ((Int32 × Int32 × Int32 × mG) ⊕ (Int32 × mG)) :=
  if x3 < 0 then
    if x2 = 0 then
      b1 (F_X12_greater s (s.1 104 0) (s.1 104 1)) fun v12 =>
      some (Sum.inr (v12, s))
    else
      if (s.1 104 0) < (s.1 104 1) then
        b1 (F_X12_stands_157 x1 x2 (ci 1) s) fun τ => some (Sum.inr τ)
      else
        b1 (F_X12_stands_157 x1 x2 (ci 0) s) fun τ => some (Sum.inr τ)
  else
    F_X12_stands_L58 x1 x2 x3 (ci 0) s
set_option maxRecDepth 4000 in
theorem k_X12_stands_B51 {N : Nat} {xs : Nat → Int32} (d : Nat) {r : Option Value × mH} {s : mG} {x1 : Int32} {x2 : Int32} {x3 : Int32} {τ : ((Int32 × Int32 × Int32 × mG) ⊕ (Int32 × mG))} (hJ : F_X12_stands_B51 x1 x2 x3 s = some τ) (hC : (C_X12_stands_51 N xs d r (fun τ => r = (some (.int τ.1), (SH, τ.2)))) τ) : Rn N xs (d + 5) me305 51 [some (.ref 88), some (.int x1), some (.int x2), some (.int x3), none, none, none] [] (SH, s) r := by
  unfold F_X12_stands_B51 at hJ
  refine Rn_sq srt305 28 2 (pc' := (if x3 < 0 then 117 else 55)) (ls' := [some (.ref 88), some (.int x1), some (.int x2), some (.int x3), none, none, none]) (st' := []) (h1 := (SH, s)) rfl (Rn_if (fun h9 => ?_) (fun h9 => ?_))
  · replace hJ := m_ifp h9 hJ
    refine Rn_sq srt305 66 2 (pc' := (if x2 = 0 then 121 else 137)) (ls' := [some (.ref 88), some (.int x1), some (.int x2), some (.int x3), none, none, none]) (st' := []) (h1 := (SH, s)) rfl (Rn_if (fun h10 => ?_) (fun h10 => ?_))
    · replace hJ := m_ifp h10 hJ
      refine Rn_sq srt305 68 3 (pc' := 126) (ls' := [some (.ref 88), some (.int x1), some (.int x2), some (.int x3), none, none, none]) (st' := [(.int (ci 0)), (.ref 104)]) (h1 := (SH, s)) rfl ?_
      refine Rn_ev srt305 71 rfl rfl rfl (op_ia sh104 (by decide) (k := 0) rfl) ?_
      refine Rn_sq srt305 72 3 (pc' := 132) (ls' := [some (.ref 88), some (.int x1), some (.int x2), some (.int x3), none, none, none]) (st' := [(.int (ci 1)), (.ref 104), (.int (s.1 104 0))]) (h1 := (SH, s)) rfl ?_
      refine Rn_ev srt305 75 rfl rfl rfl (op_ia sh104 (by decide) (k := 1) rfl) ?_
      obtain ⟨v12, h11, hJ⟩ := m_b1 hJ
      refine Rn_call srt305 76 rfl rfl rfl ⟨Nat.le_of_ble_eq_true rfl, Nat.le_of_ble_eq_true rfl, rfl, Nat.le_of_ble_eq_true rfl⟩ (k_X12_greater (d + 4) h11) (show Rn N xs (d + 5) me305 136 [some (.ref 88), some (.int x1), some (.int x2), some (.int x3), none, none, none] [(.int v12)] (SH, s) r from ?_)
      rw [← Option.some.inj hJ] at hC
      have hC : r = (some (.int v12), (SH, s)) := hC
      subst hC
      exact Rn_ret srt305 77 rfl rfl rfl
    · replace hJ := m_ifn h10 hJ
      refine Rn_sq srt305 78 3 (pc' := 142) (ls' := [some (.ref 88), some (.int x1), some (.int x2), some (.int x3), none, none, none]) (st' := [(.int (ci 0)), (.ref 104)]) (h1 := (SH, s)) rfl ?_
      refine Rn_ev srt305 81 rfl rfl rfl (op_ia sh104 (by decide) (k := 0) rfl) ?_
      refine Rn_sq srt305 82 3 (pc' := 148) (ls' := [some (.ref 88), some (.int x1), some (.int x2), some (.int x3), none, none, none]) (st' := [(.int (ci 1)), (.ref 104), (.int (s.1 104 0))]) (h1 := (SH, s)) rfl ?_
      refine Rn_ev srt305 85 rfl rfl rfl (op_ia sh104 (by decide) (k := 1) rfl) ?_
      refine Rn_sq srt305 86 1 (pc' := (if (s.1 104 0) < (s.1 104 1) then 156 else 152)) (ls' := [some (.ref 88), some (.int x1), some (.int x2), some (.int x3), none, none, none]) (st' := []) (h1 := (SH, s)) rfl (Rn_if (fun h13 => ?_) (fun h13 => ?_))
      · replace hJ := m_ifp h13 hJ
        refine Rn_sq srt305 89 1 (pc' := 157) (ls' := [some (.ref 88), some (.int x1), some (.int x2), some (.int x3), none, none, none]) (st' := [(.int (ci 1))]) (h1 := (SH, s)) rfl ?_
        obtain ⟨τ1, hJ1, hJ⟩ := m_b1 hJ
        rw [← Option.some.inj hJ] at hC
        exact Rn_weaken (a := [some (.ref 88), some (.int x1), some (.int x2), none, none, none, none]) (b := [some (.ref 88), some (.int x1), some (.int x2), some (.int x3), none, none, none]) (And.intro rfl (And.intro rfl (And.intro rfl trivial))) rfl (k_X12_stands_157 d hJ1 hC)
      · replace hJ := m_ifn h13 hJ
        refine Rn_sq srt305 87 2 (pc' := 157) (ls' := [some (.ref 88), some (.int x1), some (.int x2), some (.int x3), none, none, none]) (st' := [(.int (ci 0))]) (h1 := (SH, s)) rfl ?_
        obtain ⟨τ1, hJ1, hJ⟩ := m_b1 hJ
        rw [← Option.some.inj hJ] at hC
        exact Rn_weaken (a := [some (.ref 88), some (.int x1), some (.int x2), none, none, none, none]) (b := [some (.ref 88), some (.int x1), some (.int x2), some (.int x3), none, none, none]) (And.intro rfl (And.intro rfl (And.intro rfl trivial))) rfl (k_X12_stands_157 d hJ1 hC)
  · replace hJ := m_ifn h9 hJ
    refine Rn_sq srt305 30 2 (pc' := 58) (ls' := [some (.ref 88), some (.int x1), some (.int x2), some (.int x3), some (.int (ci 0)), none, none]) (st' := []) (h1 := (SH, s)) rfl ?_
    exact (k_X12_stands_L58 d hJ hC)
def F_X12_stands_L51 (x1 : Int32) (x2 : Int32) (x3 : Int32) (s : mG) : Option (Int32 × mG) := whl (fun (v : (Int32 × Int32 × Int32 × mG)) => F_X12_stands_B51 v.1 v.2.1 v.2.2.1 v.2.2.2) (x1, x2, x3, s)
theorem k_X12_stands_L51 {N : Nat} {xs : Nat → Int32} (d : Nat) {r : Option Value × mH} {s : mG} {x1 : Int32} {x2 : Int32} {x3 : Int32} {τ : (Int32 × mG)} (hJ : F_X12_stands_L51 x1 x2 x3 s = some τ) (hC : (fun τ => r = (some (.int τ.1), (SH, τ.2))) τ) : Rn N xs (d + 5) me305 51 [some (.ref 88), some (.int x1), some (.int x2), some (.int x3), none, none, none] [] (SH, s) r :=
  whl_link (P := fun (v : (Int32 × Int32 × Int32 × mG)) => Rn N xs (d + 5) me305 51 [some (.ref 88), some (.int v.1), some (.int v.2.1), some (.int v.2.2.1), none, none, none] [] (SH, v.2.2.2) r) (C := (C_X12_stands_51 N xs d r (fun τ => r = (some (.int τ.1), (SH, τ.2))))) (fun v τ h1 h2 => k_X12_stands_B51 d h1 h2) (fun _ h => h) (fun _ h => h) _ _ hJ hC
def F_X12_stands_28 (x1 : Int32) (x2 : Int32) (s : mG) : Option (Int32 × mG) :=
  b1 (F_X12_laysDoors s) fun s6 =>
  let s7 : mG := (mu s6.1 104 48 (ci 0), s6.2)
  let s8 : mG := (mu s7.1 104 49 (ci 0), s7.2)
  F_X12_stands_L51 x1 x2 (c8 23) s8
set_option maxRecDepth 4000 in
theorem k_X12_stands_28 {N : Nat} {xs : Nat → Int32} (d : Nat) {r : Option Value × mH} {s : mG} {x1 : Int32} {x2 : Int32} {τ : (Int32 × mG)} (hJ : F_X12_stands_28 x1 x2 s = some τ) (hC : (fun τ => r = (some (.int τ.1), (SH, τ.2))) τ) : Rn N xs (d + 5) me305 28 [some (.ref 88), some (.int x1), some (.int x2), none, none, none, none] [] (SH, s) r := by
  unfold F_X12_stands_28 at hJ
  refine Rn_sq srt305 14 1 (pc' := 29) (ls' := [some (.ref 88), some (.int x1), some (.int x2), none, none, none, none]) (st' := [(.ref 88)]) (h1 := (SH, s)) rfl ?_
  obtain ⟨s6, h5, hJ⟩ := m_b1 hJ
  refine Rn_call srt305 15 rfl rfl rfl ⟨Nat.le_of_ble_eq_true rfl, Nat.le_of_ble_eq_true rfl, rfl, Nat.le_of_ble_eq_true rfl⟩ (k_X12_laysDoors (d) h5) (show Rn N xs (d + 5) me305 32 [some (.ref 88), some (.int x1), some (.int x2), none, none, none, none] [] (SH, s6) r from ?_)
  refine Rn_sq srt305 16 4 (pc' := 39) (ls' := [some (.ref 88), some (.int x1), some (.int x2), none, none, none, none]) (st' := [(.int (ci 0)), (.int (c8 48)), (.ref 104)]) (h1 := (SH, s6)) rfl ?_
  extract_lets +onlyGivenNames s7 at hJ
  refine Rn_ev srt305 20 rfl rfl rfl (op_ias sh104 (by decide) (k := 48) rfl) ?_
  refine Rn_sq srt305 21 4 (pc' := 47) (ls' := [some (.ref 88), some (.int x1), some (.int x2), none, none, none, none]) (st' := [(.int (ci 0)), (.int (c8 49)), (.ref 104)]) (h1 := (SH, s7)) rfl ?_
  extract_lets +onlyGivenNames s8 at hJ
  refine Rn_ev srt305 25 rfl rfl rfl (op_ias sh104 (by decide) (k := 49) rfl) ?_
  refine Rn_sq srt305 26 2 (pc' := 51) (ls' := [some (.ref 88), some (.int x1), some (.int x2), some (.int (c8 23)), none, none, none]) (st' := []) (h1 := (SH, s8)) rfl ?_
  exact (k_X12_stands_L51 d hJ hC)
def F_X12_stands (a1 : Int32) (a2 : Int32) (s : mG) : Option (Int32 × mG) :=
  b1 (F_X12_isIn s a1 (ci 0) (c16 999)) fun v2 =>
  if v2 = 0 then
    F_X12_stands_26 s
  else
    if a2 = 0 then
      F_X12_stands_28 a1 a2 s
    else
      b1 (F_X12_isIn s a2 (c8 10) (c8 33)) fun v30 =>
      if v30 = 0 then
        F_X12_stands_26 s
      else
        F_X12_stands_28 a1 a2 s
set_option maxRecDepth 4000 in
theorem k_X12_stands_r {N : Nat} {xs : Nat → Int32} (d : Nat) {r : Option Value × mH} {s : mG} {a1 : Int32} {a2 : Int32} {τ : (Int32 × mG)} (hJ : F_X12_stands a1 a2 s = some τ) (hC : (fun τ => r = (some (.int τ.1), (SH, τ.2))) τ) : Rn N xs (d + 5) me305 0 [some (.ref 88), some (.int a1), some (.int a2), none, none, none, none] [] (SH, s) r := by
  unfold F_X12_stands at hJ
  refine Rn_sq srt305 0 3 (pc' := 5) (ls' := [some (.ref 88), some (.int a1), some (.int a2), none, none, none, none]) (st' := [(.int (c16 999)), (.int (ci 0)), (.int a1)]) (h1 := (SH, s)) rfl ?_
  obtain ⟨v2, h1, hJ⟩ := m_b1 hJ
  refine Rn_call srt305 3 rfl rfl rfl ⟨Nat.le_of_ble_eq_true rfl, Nat.le_of_ble_eq_true rfl, rfl, Nat.le_of_ble_eq_true rfl⟩ (k_X12_isIn (d + 4) h1) (show Rn N xs (d + 5) me305 8 [some (.ref 88), some (.int a1), some (.int a2), none, none, none, none] [(.int v2)] (SH, s) r from ?_)
  refine Rn_sq srt305 4 1 (pc' := (if v2 = 0 then 26 else 11)) (ls' := [some (.ref 88), some (.int a1), some (.int a2), none, none, none, none]) (st' := []) (h1 := (SH, s)) rfl (Rn_if (fun h3 => ?_) (fun h3 => ?_))
  · replace hJ := m_ifp h3 hJ
    exact Rn_weaken (a := [none, none, none, none, none, none, none]) (b := [some (.ref 88), some (.int a1), some (.int a2), none, none, none, none]) trivial rfl (k_X12_stands_26 d hJ hC)
  · replace hJ := m_ifn h3 hJ
    refine Rn_sq srt305 5 2 (pc' := (if a2 = 0 then 28 else 15)) (ls' := [some (.ref 88), some (.int a1), some (.int a2), none, none, none, none]) (st' := []) (h1 := (SH, s)) rfl (Rn_if (fun h4 => ?_) (fun h4 => ?_))
    · replace hJ := m_ifp h4 hJ
      exact (k_X12_stands_28 d hJ hC)
    · replace hJ := m_ifn h4 hJ
      refine Rn_sq srt305 7 3 (pc' := 20) (ls' := [some (.ref 88), some (.int a1), some (.int a2), none, none, none, none]) (st' := [(.int (c8 33)), (.int (c8 10)), (.int a2)]) (h1 := (SH, s)) rfl ?_
      obtain ⟨v30, h29, hJ⟩ := m_b1 hJ
      refine Rn_call srt305 10 rfl rfl rfl ⟨Nat.le_of_ble_eq_true rfl, Nat.le_of_ble_eq_true rfl, rfl, Nat.le_of_ble_eq_true rfl⟩ (k_X12_isIn (d + 4) h29) (show Rn N xs (d + 5) me305 23 [some (.ref 88), some (.int a1), some (.int a2), none, none, none, none] [(.int v30)] (SH, s) r from ?_)
      refine Rn_sq srt305 11 1 (pc' := (if v30 = 0 then 26 else 28)) (ls' := [some (.ref 88), some (.int a1), some (.int a2), none, none, none, none]) (st' := []) (h1 := (SH, s)) rfl (Rn_if (fun h31 => ?_) (fun h31 => ?_))
      · replace hJ := m_ifp h31 hJ
        exact Rn_weaken (a := [none, none, none, none, none, none, none]) (b := [some (.ref 88), some (.int a1), some (.int a2), none, none, none, none]) trivial rfl (k_X12_stands_26 d hJ hC)
      · replace hJ := m_ifn h31 hJ
        exact (k_X12_stands_28 d hJ hC)
theorem k_X12_stands {N : Nat} {xs : Nat → Int32} (d : Nat) {s : mG} {a1 : Int32} {a2 : Int32} {τ : (Int32 × mG)} (hJ : F_X12_stands a1 a2 s = some τ) : Rn N xs (d + 5) me305 0 [some (.ref 88), some (.int a1), some (.int a2), none, none, none, none] [] (SH, s) (some (.int τ.1), (SH, τ.2)) := k_X12_stands_r d hJ rfl
/-! IsHeInModel.lastSawBy(I)I -/
theorem srt306 : m_srt mc306 = true := by decide +kernel
def C_X12_lastSawBy_4 (N : Nat) (xs : Nat → Int32) (s : mG) (d : Nat) (r : Option Value × mH) (C : (Int32) → Prop) : ((Int32 × Int32 × Int32) ⊕ (Int32)) → Prop
  | .inl v => Rn N xs (d + 0) me306 4 [some (.ref 88), some (.int v.1), some (.int v.2.1), some (.int v.2.2), none] [] (SH, s) r
  | .inr a => C a
def F_X12_lastSawBy_58 (s : mG) (x1 : Int32) (x2 : Int32) (x3 : Int32) : Option ((Int32 × Int32 × Int32) ⊕ (Int32)) :=
  some (Sum.inl (x1, x2, (x3 + ci 1)))
set_option maxRecDepth 4000 in
theorem k_X12_lastSawBy_58 {N : Nat} {xs : Nat → Int32} (d : Nat) {r : Option Value × mH} {s : mG} {x1 : Int32} {x2 : Int32} {x3 : Int32} {τ : ((Int32 × Int32 × Int32) ⊕ (Int32))} (hJ : F_X12_lastSawBy_58 s x1 x2 x3 = some τ) (hC : (C_X12_lastSawBy_4 N xs s d r (fun τ => r = (some (.int τ), (SH, s)))) τ) : Rn N xs (d + 0) me306 58 [some (.ref 88), some (.int x1), some (.int x2), some (.int x3), none] [] (SH, s) r := by
  unfold F_X12_lastSawBy_58 at hJ
  refine Rn_sq srt306 38 2 (pc' := 4) (ls' := [some (.ref 88), some (.int x1), some (.int x2), some (.int (x3 + ci 1)), none]) (st' := []) (h1 := (SH, s)) rfl ?_
  rw [← Option.some.inj hJ] at hC
  exact hC
def F_X12_lastSawBy_B4 (s : mG) (x1 : Int32) (x2 : Int32) (x3 : Int32) : Option ((Int32 × Int32 × Int32) ⊕ (Int32)) :=
  if (s.1 89 2) ≤ x3 then
    some (Sum.inr x2)
  else
    let v2 : Int32 := ((c16 235) + ((ci 5) * x3))
    if (v2 + (ci 1)) < 0 ∨ 1894 ≤ (v2 + (ci 1)).toNatClampNeg then none else
    if (s.1 89 (v2 + (ci 1)).toNatClampNeg) = 0 then
      if (v2 + (ci 2)) < 0 ∨ 1894 ≤ (v2 + (ci 2)).toNatClampNeg then none else
      if (s.1 89 (v2 + (ci 2)).toNatClampNeg) = x1 then
        if (v2 + (ci 4)) < 0 ∨ 1894 ≤ (v2 + (ci 4)).toNatClampNeg then none else
        let v8 : Int32 := (s.1 89 (v2 + (ci 4)).toNatClampNeg)
        F_X12_lastSawBy_58 s x1 v8 x3
      else
        F_X12_lastSawBy_58 s x1 x2 x3
    else
      F_X12_lastSawBy_58 s x1 x2 x3
set_option maxRecDepth 4000 in
theorem k_X12_lastSawBy_B4 {N : Nat} {xs : Nat → Int32} (d : Nat) {r : Option Value × mH} {s : mG} {x1 : Int32} {x2 : Int32} {x3 : Int32} {τ : ((Int32 × Int32 × Int32) ⊕ (Int32))} (hJ : F_X12_lastSawBy_B4 s x1 x2 x3 = some τ) (hC : (C_X12_lastSawBy_4 N xs s d r (fun τ => r = (some (.int τ), (SH, s)))) τ) : Rn N xs (d + 0) me306 4 [some (.ref 88), some (.int x1), some (.int x2), some (.int x3), none] [] (SH, s) r := by
  unfold F_X12_lastSawBy_B4 at hJ
  refine Rn_sq srt306 4 4 (pc' := 10) (ls' := [some (.ref 88), some (.int x1), some (.int x2), some (.int x3), none]) (st' := [(.int (ci 2)), (.ref 89), (.int x3)]) (h1 := (SH, s)) rfl ?_
  refine Rn_ev srt306 8 rfl rfl rfl (op_ia sh89 (by decide) (k := 2) rfl) ?_
  refine Rn_sq srt306 9 1 (pc' := (if (s.1 89 2) ≤ x3 then 64 else 14)) (ls' := [some (.ref 88), some (.int x1), some (.int x2), some (.int x3), none]) (st' := []) (h1 := (SH, s)) rfl (Rn_if (fun h1 => ?_) (fun h1 => ?_))
  · replace hJ := m_ifp h1 hJ
    refine Rn_sq srt306 40 1 (pc' := 65) (ls' := [some (.ref 88), some (.int x1), some (.int x2), some (.int x3), none]) (st' := [(.int x2)]) (h1 := (SH, s)) rfl ?_
    rw [← Option.some.inj hJ] at hC
    have hC : r = (some (.int x2), (SH, s)) := hC
    subst hC
    exact Rn_ret srt306 41 rfl rfl rfl
  · replace hJ := m_ifn h1 hJ
    extract_lets +onlyGivenNames v2 at hJ
    refine Rn_sq srt306 10 11 (pc' := 31) (ls' := [some (.ref 88), some (.int x1), some (.int x2), some (.int x3), some (.int v2)]) (st' := [(.int (v2 + (ci 1))), (.ref 89)]) (h1 := (SH, s)) rfl ?_
    obtain ⟨h3, hJ⟩ := m_gn hJ
    refine Rn_ev srt306 21 rfl rfl rfl (op_ia sh89 h3 (k := (v2 + (ci 1)).toNatClampNeg) rfl) ?_
    refine Rn_sq srt306 22 1 (pc' := (if (s.1 89 (v2 + (ci 1)).toNatClampNeg) = 0 then 35 else 58)) (ls' := [some (.ref 88), some (.int x1), some (.int x2), some (.int x3), some (.int v2)]) (st' := []) (h1 := (SH, s)) rfl (Rn_if (fun h4 => ?_) (fun h4 => ?_))
    · replace hJ := m_ifp h4 hJ
      refine Rn_sq srt306 23 5 (pc' := 43) (ls' := [some (.ref 88), some (.int x1), some (.int x2), some (.int x3), some (.int v2)]) (st' := [(.int (v2 + (ci 2))), (.ref 89)]) (h1 := (SH, s)) rfl ?_
      obtain ⟨h5, hJ⟩ := m_gn hJ
      refine Rn_ev srt306 28 rfl rfl rfl (op_ia sh89 h5 (k := (v2 + (ci 2)).toNatClampNeg) rfl) ?_
      refine Rn_sq srt306 29 2 (pc' := (if (s.1 89 (v2 + (ci 2)).toNatClampNeg) = x1 then 48 else 58)) (ls' := [some (.ref 88), some (.int x1), some (.int x2), some (.int x3), some (.int v2)]) (st' := []) (h1 := (SH, s)) rfl (Rn_if (fun h6 => ?_) (fun h6 => ?_))
      · replace hJ := m_ifp h6 hJ
        refine Rn_sq srt306 31 5 (pc' := 56) (ls' := [some (.ref 88), some (.int x1), some (.int x2), some (.int x3), some (.int v2)]) (st' := [(.int (v2 + (ci 4))), (.ref 89)]) (h1 := (SH, s)) rfl ?_
        obtain ⟨h7, hJ⟩ := m_gn hJ
        refine Rn_ev srt306 36 rfl rfl rfl (op_ia sh89 h7 (k := (v2 + (ci 4)).toNatClampNeg) rfl) ?_
        extract_lets +onlyGivenNames v8 at hJ
        refine Rn_sq srt306 37 1 (pc' := 58) (ls' := [some (.ref 88), some (.int x1), some (.int v8), some (.int x3), some (.int v2)]) (st' := []) (h1 := (SH, s)) rfl ?_
        exact Rn_weaken (a := [some (.ref 88), some (.int x1), some (.int v8), some (.int x3), none]) (b := [some (.ref 88), some (.int x1), some (.int v8), some (.int x3), some (.int v2)]) (And.intro rfl (And.intro rfl (And.intro rfl (And.intro rfl trivial)))) rfl (k_X12_lastSawBy_58 d hJ hC)
      · replace hJ := m_ifn h6 hJ
        exact Rn_weaken (a := [some (.ref 88), some (.int x1), some (.int x2), some (.int x3), none]) (b := [some (.ref 88), some (.int x1), some (.int x2), some (.int x3), some (.int v2)]) (And.intro rfl (And.intro rfl (And.intro rfl (And.intro rfl trivial)))) rfl (k_X12_lastSawBy_58 d hJ hC)
    · replace hJ := m_ifn h4 hJ
      exact Rn_weaken (a := [some (.ref 88), some (.int x1), some (.int x2), some (.int x3), none]) (b := [some (.ref 88), some (.int x1), some (.int x2), some (.int x3), some (.int v2)]) (And.intro rfl (And.intro rfl (And.intro rfl (And.intro rfl trivial)))) rfl (k_X12_lastSawBy_58 d hJ hC)
def F_X12_lastSawBy_L4 (s : mG) (x1 : Int32) (x2 : Int32) (x3 : Int32) : Option (Int32) := whl (fun (v : (Int32 × Int32 × Int32)) => F_X12_lastSawBy_B4 s v.1 v.2.1 v.2.2) (x1, x2, x3)
theorem k_X12_lastSawBy_L4 {N : Nat} {xs : Nat → Int32} (d : Nat) {r : Option Value × mH} {s : mG} {x1 : Int32} {x2 : Int32} {x3 : Int32} {τ : (Int32)} (hJ : F_X12_lastSawBy_L4 s x1 x2 x3 = some τ) (hC : (fun τ => r = (some (.int τ), (SH, s))) τ) : Rn N xs (d + 0) me306 4 [some (.ref 88), some (.int x1), some (.int x2), some (.int x3), none] [] (SH, s) r :=
  whl_link (P := fun (v : (Int32 × Int32 × Int32)) => Rn N xs (d + 0) me306 4 [some (.ref 88), some (.int v.1), some (.int v.2.1), some (.int v.2.2), none] [] (SH, s) r) (C := (C_X12_lastSawBy_4 N xs s d r (fun τ => r = (some (.int τ), (SH, s))))) (fun v τ h1 h2 => k_X12_lastSawBy_B4 d h1 h2) (fun _ h => h) (fun _ h => h) _ _ hJ hC
def F_X12_lastSawBy (s : mG) (a1 : Int32) : Option (Int32) :=
  F_X12_lastSawBy_L4 s a1 (ci (-1)) (ci 0)
set_option maxRecDepth 4000 in
theorem k_X12_lastSawBy_r {N : Nat} {xs : Nat → Int32} (d : Nat) {r : Option Value × mH} {s : mG} {a1 : Int32} {τ : (Int32)} (hJ : F_X12_lastSawBy s a1 = some τ) (hC : (fun τ => r = (some (.int τ), (SH, s))) τ) : Rn N xs (d + 0) me306 0 [some (.ref 88), some (.int a1), none, none, none] [] (SH, s) r := by
  unfold F_X12_lastSawBy at hJ
  refine Rn_sq srt306 0 4 (pc' := 4) (ls' := [some (.ref 88), some (.int a1), some (.int (ci (-1))), some (.int (ci 0)), none]) (st' := []) (h1 := (SH, s)) rfl ?_
  exact (k_X12_lastSawBy_L4 d hJ hC)
theorem k_X12_lastSawBy {N : Nat} {xs : Nat → Int32} (d : Nat) {s : mG} {a1 : Int32} {τ : (Int32)} (hJ : F_X12_lastSawBy s a1 = some τ) : Rn N xs (d + 0) me306 0 [some (.ref 88), some (.int a1), none, none, none] [] (SH, s) (some (.int τ), (SH, s)) := k_X12_lastSawBy_r d hJ rfl
/-! IsHeInModel.tellsOn(I)I -/
theorem srt307 : m_srt mc307 = true := by decide +kernel
def C_X12_tellsOn_15 (N : Nat) (xs : Nat → Int32) (s : mG) (d : Nat) (r : Option Value × mH) (C : (Int32) → Prop) : ((Int32 × Int32 × Int32) ⊕ (Int32)) → Prop
  | .inl v => Rn N xs (d + 1) me307 15 [some (.ref 88), some (.int v.1), some (.int v.2.1), some (.int v.2.2)] [] (SH, s) r
  | .inr a => C a
def F_X12_tellsOn_55 (s : mG) (x1 : Int32) (x3 : Int32) (y0 : Int32) (y1 : Int32) : Option ((Int32 × Int32 × Int32) ⊕ (Int32)) :=
  some (Sum.inl (x1, (y0 ||| y1), (x3 + ci 1)))
set_option maxRecDepth 4000 in
theorem k_X12_tellsOn_55 {N : Nat} {xs : Nat → Int32} (d : Nat) {r : Option Value × mH} {s : mG} {x1 : Int32} {x3 : Int32} {y0 : Int32} {y1 : Int32} {τ : ((Int32 × Int32 × Int32) ⊕ (Int32))} (hJ : F_X12_tellsOn_55 s x1 x3 y0 y1 = some τ) (hC : (C_X12_tellsOn_15 N xs s d r (fun τ => r = (some (.int τ), (SH, s)))) τ) : Rn N xs (d + 1) me307 55 [some (.ref 88), some (.int x1), none, some (.int x3)] [(.int y1), (.int y0)] (SH, s) r := by
  unfold F_X12_tellsOn_55 at hJ
  refine Rn_sq srt307 36 4 (pc' := 15) (ls' := [some (.ref 88), some (.int x1), some (.int (y0 ||| y1)), some (.int (x3 + ci 1))]) (st' := []) (h1 := (SH, s)) rfl ?_
  rw [← Option.some.inj hJ] at hC
  exact hC
def F_X12_tellsOn_54 (s : mG) (x1 : Int32) (x3 : Int32) (y0 : Int32) : Option ((Int32 × Int32 × Int32) ⊕ (Int32)) :=
  F_X12_tellsOn_55 s x1 x3 y0 (ci 0)
set_option maxRecDepth 4000 in
theorem k_X12_tellsOn_54 {N : Nat} {xs : Nat → Int32} (d : Nat) {r : Option Value × mH} {s : mG} {x1 : Int32} {x3 : Int32} {y0 : Int32} {τ : ((Int32 × Int32 × Int32) ⊕ (Int32))} (hJ : F_X12_tellsOn_54 s x1 x3 y0 = some τ) (hC : (C_X12_tellsOn_15 N xs s d r (fun τ => r = (some (.int τ), (SH, s)))) τ) : Rn N xs (d + 1) me307 54 [some (.ref 88), some (.int x1), none, some (.int x3)] [(.int y0)] (SH, s) r := by
  unfold F_X12_tellsOn_54 at hJ
  refine Rn_sq srt307 35 1 (pc' := 55) (ls' := [some (.ref 88), some (.int x1), none, some (.int x3)]) (st' := [(.int (ci 0)), (.int y0)]) (h1 := (SH, s)) rfl ?_
  exact (k_X12_tellsOn_55 d hJ hC)
def F_X12_tellsOn_B15 (s : mG) (x1 : Int32) (x2 : Int32) (x3 : Int32) : Option ((Int32 × Int32 × Int32) ⊕ (Int32)) :=
  if (s.1 89 112) ≤ x3 then
    some (Sum.inr x2)
  else
    if ((ci 3) + x3) < 0 ∨ 1894 ≤ ((ci 3) + x3).toNatClampNeg then none else
    if (s.1 89 ((ci 3) + x3).toNatClampNeg) = (ci 1) then
      b1 (F_X12_lastSawBy s x3) fun v8 =>
      if v8 = x1 then
        F_X12_tellsOn_55 s x1 x3 x2 ((ci 1) <<< (x3 &&& 31))
      else
        F_X12_tellsOn_54 s x1 x3 x2
    else
      F_X12_tellsOn_54 s x1 x3 x2
set_option maxRecDepth 4000 in
theorem k_X12_tellsOn_B15 {N : Nat} {xs : Nat → Int32} (d : Nat) {r : Option Value × mH} {s : mG} {x1 : Int32} {x2 : Int32} {x3 : Int32} {τ : ((Int32 × Int32 × Int32) ⊕ (Int32))} (hJ : F_X12_tellsOn_B15 s x1 x2 x3 = some τ) (hC : (C_X12_tellsOn_15 N xs s d r (fun τ => r = (some (.int τ), (SH, s)))) τ) : Rn N xs (d + 1) me307 15 [some (.ref 88), some (.int x1), some (.int x2), some (.int x3)] [] (SH, s) r := by
  unfold F_X12_tellsOn_B15 at hJ
  refine Rn_sq srt307 11 4 (pc' := 22) (ls' := [some (.ref 88), some (.int x1), some (.int x2), some (.int x3)]) (st' := [(.int (c8 112)), (.ref 89), (.int x3)]) (h1 := (SH, s)) rfl ?_
  refine Rn_ev srt307 15 rfl rfl rfl (op_ia sh89 (by decide) (k := 112) rfl) ?_
  refine Rn_sq srt307 16 1 (pc' := (if (s.1 89 112) ≤ x3 then 63 else 26)) (ls' := [some (.ref 88), some (.int x1), some (.int x2), some (.int x3)]) (st' := []) (h1 := (SH, s)) rfl (Rn_if (fun h4 => ?_) (fun h4 => ?_))
  · replace hJ := m_ifp h4 hJ
    refine Rn_sq srt307 40 1 (pc' := 64) (ls' := [some (.ref 88), some (.int x1), some (.int x2), some (.int x3)]) (st' := [(.int x2)]) (h1 := (SH, s)) rfl ?_
    rw [← Option.some.inj hJ] at hC
    have hC : r = (some (.int x2), (SH, s)) := hC
    subst hC
    exact Rn_ret srt307 41 rfl rfl rfl
  · replace hJ := m_ifn h4 hJ
    refine Rn_sq srt307 17 6 (pc' := 34) (ls' := [some (.ref 88), some (.int x1), some (.int x2), some (.int x3)]) (st' := [(.int ((ci 3) + x3)), (.ref 89), (.int x2)]) (h1 := (SH, s)) rfl ?_
    obtain ⟨h5, hJ⟩ := m_gn hJ
    refine Rn_ev srt307 23 rfl rfl rfl (op_ia sh89 h5 (k := ((ci 3) + x3).toNatClampNeg) rfl) ?_
    refine Rn_sq srt307 24 2 (pc' := (if (s.1 89 ((ci 3) + x3).toNatClampNeg) = (ci 1) then 39 else 54)) (ls' := [some (.ref 88), some (.int x1), some (.int x2), some (.int x3)]) (st' := [(.int x2)]) (h1 := (SH, s)) rfl (Rn_if (fun h6 => ?_) (fun h6 => ?_))
    · replace hJ := m_ifp h6 hJ
      refine Rn_sq srt307 26 2 (pc' := 41) (ls' := [some (.ref 88), some (.int x1), some (.int x2), some (.int x3)]) (st' := [(.int x3), (.ref 88), (.int x2)]) (h1 := (SH, s)) rfl ?_
      obtain ⟨v8, h7, hJ⟩ := m_b1 hJ
      refine Rn_call srt307 28 rfl rfl rfl ⟨Nat.le_of_ble_eq_true rfl, Nat.le_of_ble_eq_true rfl, rfl, Nat.le_of_ble_eq_true rfl⟩ (k_X12_lastSawBy (d) h7) (show Rn N xs (d + 1) me307 44 [some (.ref 88), some (.int x1), some (.int x2), some (.int x3)] [(.int v8), (.int x2)] (SH, s) r from ?_)
      refine Rn_sq srt307 29 2 (pc' := (if v8 = x1 then 48 else 54)) (ls' := [some (.ref 88), some (.int x1), some (.int x2), some (.int x3)]) (st' := [(.int x2)]) (h1 := (SH, s)) rfl (Rn_if (fun h9 => ?_) (fun h9 => ?_))
      · replace hJ := m_ifp h9 hJ
        refine Rn_sq srt307 31 4 (pc' := 55) (ls' := [some (.ref 88), some (.int x1), some (.int x2), some (.int x3)]) (st' := [(.int ((ci 1) <<< (x3 &&& 31))), (.int x2)]) (h1 := (SH, s)) rfl ?_
        exact Rn_weaken (a := [some (.ref 88), some (.int x1), none, some (.int x3)]) (b := [some (.ref 88), some (.int x1), some (.int x2), some (.int x3)]) (And.intro rfl (And.intro rfl (And.intro rfl trivial))) rfl (k_X12_tellsOn_55 d hJ hC)
      · replace hJ := m_ifn h9 hJ
        exact Rn_weaken (a := [some (.ref 88), some (.int x1), none, some (.int x3)]) (b := [some (.ref 88), some (.int x1), some (.int x2), some (.int x3)]) (And.intro rfl (And.intro rfl (And.intro rfl trivial))) rfl (k_X12_tellsOn_54 d hJ hC)
    · replace hJ := m_ifn h6 hJ
      exact Rn_weaken (a := [some (.ref 88), some (.int x1), none, some (.int x3)]) (b := [some (.ref 88), some (.int x1), some (.int x2), some (.int x3)]) (And.intro rfl (And.intro rfl (And.intro rfl trivial))) rfl (k_X12_tellsOn_54 d hJ hC)
def F_X12_tellsOn_L15 (s : mG) (x1 : Int32) (x2 : Int32) (x3 : Int32) : Option (Int32) := whl (fun (v : (Int32 × Int32 × Int32)) => F_X12_tellsOn_B15 s v.1 v.2.1 v.2.2) (x1, x2, x3)
theorem k_X12_tellsOn_L15 {N : Nat} {xs : Nat → Int32} (d : Nat) {r : Option Value × mH} {s : mG} {x1 : Int32} {x2 : Int32} {x3 : Int32} {τ : (Int32)} (hJ : F_X12_tellsOn_L15 s x1 x2 x3 = some τ) (hC : (fun τ => r = (some (.int τ), (SH, s))) τ) : Rn N xs (d + 1) me307 15 [some (.ref 88), some (.int x1), some (.int x2), some (.int x3)] [] (SH, s) r :=
  whl_link (P := fun (v : (Int32 × Int32 × Int32)) => Rn N xs (d + 1) me307 15 [some (.ref 88), some (.int v.1), some (.int v.2.1), some (.int v.2.2)] [] (SH, s) r) (C := (C_X12_tellsOn_15 N xs s d r (fun τ => r = (some (.int τ), (SH, s))))) (fun v τ h1 h2 => k_X12_tellsOn_B15 d h1 h2) (fun _ h => h) (fun _ h => h) _ _ hJ hC
def F_X12_tellsOn (s : mG) (a1 : Int32) : Option (Int32) :=
  b1 (F_X12_isIn s a1 (ci 0) (ci 3)) fun v2 =>
  if v2 = 0 then
    some (ci (-1))
  else
    F_X12_tellsOn_L15 s a1 (ci 0) (ci 0)
set_option maxRecDepth 4000 in
theorem k_X12_tellsOn_r {N : Nat} {xs : Nat → Int32} (d : Nat) {r : Option Value × mH} {s : mG} {a1 : Int32} {τ : (Int32)} (hJ : F_X12_tellsOn s a1 = some τ) (hC : (fun τ => r = (some (.int τ), (SH, s))) τ) : Rn N xs (d + 1) me307 0 [some (.ref 88), some (.int a1), none, none] [] (SH, s) r := by
  unfold F_X12_tellsOn at hJ
  refine Rn_sq srt307 0 3 (pc' := 3) (ls' := [some (.ref 88), some (.int a1), none, none]) (st' := [(.int (ci 3)), (.int (ci 0)), (.int a1)]) (h1 := (SH, s)) rfl ?_
  obtain ⟨v2, h1, hJ⟩ := m_b1 hJ
  refine Rn_call srt307 3 rfl rfl rfl ⟨Nat.le_of_ble_eq_true rfl, Nat.le_of_ble_eq_true rfl, rfl, Nat.le_of_ble_eq_true rfl⟩ (k_X12_isIn (d) h1) (show Rn N xs (d + 1) me307 6 [some (.ref 88), some (.int a1), none, none] [(.int v2)] (SH, s) r from ?_)
  refine Rn_sq srt307 4 1 (pc' := (if v2 = 0 then 9 else 11)) (ls' := [some (.ref 88), some (.int a1), none, none]) (st' := []) (h1 := (SH, s)) rfl (Rn_if (fun h3 => ?_) (fun h3 => ?_))
  · replace hJ := m_ifp h3 hJ
    refine Rn_sq srt307 5 1 (pc' := 10) (ls' := [some (.ref 88), some (.int a1), none, none]) (st' := [(.int (ci (-1)))]) (h1 := (SH, s)) rfl ?_
    rw [← Option.some.inj hJ] at hC
    have hC : r = (some (.int (ci (-1))), (SH, s)) := hC
    subst hC
    exact Rn_ret srt307 6 rfl rfl rfl
  · replace hJ := m_ifn h3 hJ
    refine Rn_sq srt307 7 4 (pc' := 15) (ls' := [some (.ref 88), some (.int a1), some (.int (ci 0)), some (.int (ci 0))]) (st' := []) (h1 := (SH, s)) rfl ?_
    exact (k_X12_tellsOn_L15 d hJ hC)
theorem k_X12_tellsOn {N : Nat} {xs : Nat → Int32} (d : Nat) {s : mG} {a1 : Int32} {τ : (Int32)} (hJ : F_X12_tellsOn s a1 = some τ) : Rn N xs (d + 1) me307 0 [some (.ref 88), some (.int a1), none, none] [] (SH, s) (some (.int τ), (SH, s)) := k_X12_tellsOn_r d hJ rfl
/-! IsHeInModel.saw(II)I -/
theorem srt308 : m_srt mc308 = true := by decide +kernel
def F_X12_saw_17 (s : mG) : Option (Int32) :=
  some (ci (-1))
set_option maxRecDepth 4000 in
theorem k_X12_saw_17 {N : Nat} {xs : Nat → Int32} (d : Nat) {r : Option Value × mH} {s : mG} {τ : (Int32)} (hJ : F_X12_saw_17 s = some τ) (hC : (fun τ => r = (some (.int τ), (SH, s))) τ) : Rn N xs (d + 2) me308 17 [none, none, none, none, none, none] [] (SH, s) r := by
  unfold F_X12_saw_17 at hJ
  refine Rn_sq srt308 9 1 (pc' := 18) (ls' := [none, none, none, none, none, none]) (st' := [(.int (ci (-1)))]) (h1 := (SH, s)) rfl ?_
  rw [← Option.some.inj hJ] at hC
  have hC : r = (some (.int (ci (-1))), (SH, s)) := hC
  subst hC
  exact Rn_ret srt308 10 rfl rfl rfl
def C_X12_saw_24 (N : Nat) (xs : Nat → Int32) (s : mG) (d : Nat) (r : Option Value × mH) (C : (Int32) → Prop) : ((Int32 × Int32 × Int32 × Int32) ⊕ (Int32)) → Prop
  | .inl v => Rn N xs (d + 2) me308 24 [some (.ref 88), some (.int v.1), some (.int v.2.1), some (.int v.2.2.1), some (.int v.2.2.2), none] [] (SH, s) r
  | .inr a => C a
def F_X12_saw_99 (s : mG) (x1 : Int32) (x2 : Int32) (x4 : Int32) (y0 : Int32) (y1 : Int32) : Option ((Int32 × Int32 × Int32 × Int32) ⊕ (Int32)) :=
  some (Sum.inl (x1, x2, (y0 + y1), (x4 + ci 1)))
set_option maxRecDepth 4000 in
theorem k_X12_saw_99 {N : Nat} {xs : Nat → Int32} (d : Nat) {r : Option Value × mH} {s : mG} {x1 : Int32} {x2 : Int32} {x4 : Int32} {y0 : Int32} {y1 : Int32} {τ : ((Int32 × Int32 × Int32 × Int32) ⊕ (Int32))} (hJ : F_X12_saw_99 s x1 x2 x4 y0 y1 = some τ) (hC : (C_X12_saw_24 N xs s d r (fun τ => r = (some (.int τ), (SH, s)))) τ) : Rn N xs (d + 2) me308 99 [some (.ref 88), some (.int x1), some (.int x2), none, some (.int x4), none] [(.int y1), (.int y0)] (SH, s) r := by
  unfold F_X12_saw_99 at hJ
  refine Rn_sq srt308 60 4 (pc' := 24) (ls' := [some (.ref 88), some (.int x1), some (.int x2), some (.int (y0 + y1)), some (.int (x4 + ci 1)), none]) (st' := []) (h1 := (SH, s)) rfl ?_
  rw [← Option.some.inj hJ] at hC
  exact hC
def F_X12_saw_98 (s : mG) (x1 : Int32) (x2 : Int32) (x4 : Int32) (y0 : Int32) : Option ((Int32 × Int32 × Int32 × Int32) ⊕ (Int32)) :=
  F_X12_saw_99 s x1 x2 x4 y0 (ci 0)
set_option maxRecDepth 4000 in
theorem k_X12_saw_98 {N : Nat} {xs : Nat → Int32} (d : Nat) {r : Option Value × mH} {s : mG} {x1 : Int32} {x2 : Int32} {x4 : Int32} {y0 : Int32} {τ : ((Int32 × Int32 × Int32 × Int32) ⊕ (Int32))} (hJ : F_X12_saw_98 s x1 x2 x4 y0 = some τ) (hC : (C_X12_saw_24 N xs s d r (fun τ => r = (some (.int τ), (SH, s)))) τ) : Rn N xs (d + 2) me308 98 [some (.ref 88), some (.int x1), some (.int x2), none, some (.int x4), none] [(.int y0)] (SH, s) r := by
  unfold F_X12_saw_98 at hJ
  refine Rn_sq srt308 59 1 (pc' := 99) (ls' := [some (.ref 88), some (.int x1), some (.int x2), none, some (.int x4), none]) (st' := [(.int (ci 0)), (.int y0)]) (h1 := (SH, s)) rfl ?_
  exact (k_X12_saw_99 d hJ hC)
def F_X12_saw_90 (s : mG) (x1 : Int32) (x2 : Int32) (x4 : Int32) (y0 : Int32) (y1 : Int32) : Option ((Int32 × Int32 × Int32 × Int32) ⊕ (Int32)) :=
  if y1 = x2 then
    F_X12_saw_99 s x1 x2 x4 y0 (ci 1)
  else
    F_X12_saw_98 s x1 x2 x4 y0
set_option maxRecDepth 4000 in
theorem k_X12_saw_90 {N : Nat} {xs : Nat → Int32} (d : Nat) {r : Option Value × mH} {s : mG} {x1 : Int32} {x2 : Int32} {x4 : Int32} {y0 : Int32} {y1 : Int32} {τ : ((Int32 × Int32 × Int32 × Int32) ⊕ (Int32))} (hJ : F_X12_saw_90 s x1 x2 x4 y0 y1 = some τ) (hC : (C_X12_saw_24 N xs s d r (fun τ => r = (some (.int τ), (SH, s)))) τ) : Rn N xs (d + 2) me308 90 [some (.ref 88), some (.int x1), some (.int x2), none, some (.int x4), none] [(.int y1), (.int y0)] (SH, s) r := by
  unfold F_X12_saw_90 at hJ
  refine Rn_sq srt308 55 2 (pc' := (if y1 = x2 then 94 else 98)) (ls' := [some (.ref 88), some (.int x1), some (.int x2), none, some (.int x4), none]) (st' := [(.int y0)]) (h1 := (SH, s)) rfl (Rn_if (fun h15 => ?_) (fun h15 => ?_))
  · replace hJ := m_ifp h15 hJ
    refine Rn_sq srt308 57 2 (pc' := 99) (ls' := [some (.ref 88), some (.int x1), some (.int x2), none, some (.int x4), none]) (st' := [(.int (ci 1)), (.int y0)]) (h1 := (SH, s)) rfl ?_
    exact (k_X12_saw_99 d hJ hC)
  · replace hJ := m_ifn h15 hJ
    exact (k_X12_saw_98 d hJ hC)
def F_X12_saw_B24 (s : mG) (x1 : Int32) (x2 : Int32) (x3 : Int32) (x4 : Int32) : Option ((Int32 × Int32 × Int32 × Int32) ⊕ (Int32)) :=
  if (s.1 89 2) ≤ x4 then
    some (Sum.inr x3)
  else
    let v8 : Int32 := ((c16 235) + ((ci 5) * x4))
    if (v8 + (ci 1)) < 0 ∨ 1894 ≤ (v8 + (ci 1)).toNatClampNeg then none else
    if (s.1 89 (v8 + (ci 1)).toNatClampNeg) = (ci 2) then
      F_X12_saw_98 s x1 x2 x4 x3
    else
      if (v8 + (ci 2)) < 0 ∨ 1894 ≤ (v8 + (ci 2)).toNatClampNeg then none else
      if (s.1 89 (v8 + (ci 2)).toNatClampNeg) = x1 then
        if (v8 + (ci 4)) < 0 ∨ 1894 ≤ (v8 + (ci 4)).toNatClampNeg then none else
        if (s.1 89 (v8 + (ci 4)).toNatClampNeg) = (ci (-1)) then
          F_X12_saw_90 s x1 x2 x4 x3 (ci 1)
        else
          F_X12_saw_90 s x1 x2 x4 x3 (ci 0)
      else
        F_X12_saw_98 s x1 x2 x4 x3
set_option maxRecDepth 4000 in
theorem k_X12_saw_B24 {N : Nat} {xs : Nat → Int32} (d : Nat) {r : Option Value × mH} {s : mG} {x1 : Int32} {x2 : Int32} {x3 : Int32} {x4 : Int32} {τ : ((Int32 × Int32 × Int32 × Int32) ⊕ (Int32))} (hJ : F_X12_saw_B24 s x1 x2 x3 x4 = some τ) (hC : (C_X12_saw_24 N xs s d r (fun τ => r = (some (.int τ), (SH, s)))) τ) : Rn N xs (d + 2) me308 24 [some (.ref 88), some (.int x1), some (.int x2), some (.int x3), some (.int x4), none] [] (SH, s) r := by
  unfold F_X12_saw_B24 at hJ
  refine Rn_sq srt308 15 4 (pc' := 31) (ls' := [some (.ref 88), some (.int x1), some (.int x2), some (.int x3), some (.int x4), none]) (st' := [(.int (ci 2)), (.ref 89), (.int x4)]) (h1 := (SH, s)) rfl ?_
  refine Rn_ev srt308 19 rfl rfl rfl (op_ia sh89 (by decide) (k := 2) rfl) ?_
  refine Rn_sq srt308 20 1 (pc' := (if (s.1 89 2) ≤ x4 then 107 else 35)) (ls' := [some (.ref 88), some (.int x1), some (.int x2), some (.int x3), some (.int x4), none]) (st' := []) (h1 := (SH, s)) rfl (Rn_if (fun h7 => ?_) (fun h7 => ?_))
  · replace hJ := m_ifp h7 hJ
    refine Rn_sq srt308 64 1 (pc' := 108) (ls' := [some (.ref 88), some (.int x1), some (.int x2), some (.int x3), some (.int x4), none]) (st' := [(.int x3)]) (h1 := (SH, s)) rfl ?_
    rw [← Option.some.inj hJ] at hC
    have hC : r = (some (.int x3), (SH, s)) := hC
    subst hC
    exact Rn_ret srt308 65 rfl rfl rfl
  · replace hJ := m_ifn h7 hJ
    extract_lets +onlyGivenNames v8 at hJ
    refine Rn_sq srt308 21 12 (pc' := 54) (ls' := [some (.ref 88), some (.int x1), some (.int x2), some (.int x3), some (.int x4), some (.int v8)]) (st' := [(.int (v8 + (ci 1))), (.ref 89), (.int x3)]) (h1 := (SH, s)) rfl ?_
    obtain ⟨h9, hJ⟩ := m_gn hJ
    refine Rn_ev srt308 33 rfl rfl rfl (op_ia sh89 h9 (k := (v8 + (ci 1)).toNatClampNeg) rfl) ?_
    refine Rn_sq srt308 34 2 (pc' := (if (s.1 89 (v8 + (ci 1)).toNatClampNeg) = (ci 2) then 98 else 59)) (ls' := [some (.ref 88), some (.int x1), some (.int x2), some (.int x3), some (.int x4), some (.int v8)]) (st' := [(.int x3)]) (h1 := (SH, s)) rfl (Rn_if (fun h10 => ?_) (fun h10 => ?_))
    · replace hJ := m_ifp h10 hJ
      exact Rn_weaken (a := [some (.ref 88), some (.int x1), some (.int x2), none, some (.int x4), none]) (b := [some (.ref 88), some (.int x1), some (.int x2), some (.int x3), some (.int x4), some (.int v8)]) (And.intro rfl (And.intro rfl (And.intro rfl (And.intro rfl trivial)))) rfl (k_X12_saw_98 d hJ hC)
    · replace hJ := m_ifn h10 hJ
      refine Rn_sq srt308 36 5 (pc' := 67) (ls' := [some (.ref 88), some (.int x1), some (.int x2), some (.int x3), some (.int x4), some (.int v8)]) (st' := [(.int (v8 + (ci 2))), (.ref 89), (.int x3)]) (h1 := (SH, s)) rfl ?_
      obtain ⟨h11, hJ⟩ := m_gn hJ
      refine Rn_ev srt308 41 rfl rfl rfl (op_ia sh89 h11 (k := (v8 + (ci 2)).toNatClampNeg) rfl) ?_
      refine Rn_sq srt308 42 2 (pc' := (if (s.1 89 (v8 + (ci 2)).toNatClampNeg) = x1 then 72 else 98)) (ls' := [some (.ref 88), some (.int x1), some (.int x2), some (.int x3), some (.int x4), some (.int v8)]) (st' := [(.int x3)]) (h1 := (SH, s)) rfl (Rn_if (fun h12 => ?_) (fun h12 => ?_))
      · replace hJ := m_ifp h12 hJ
        refine Rn_sq srt308 44 5 (pc' := 80) (ls' := [some (.ref 88), some (.int x1), some (.int x2), some (.int x3), some (.int x4), some (.int v8)]) (st' := [(.int (v8 + (ci 4))), (.ref 89), (.int x3)]) (h1 := (SH, s)) rfl ?_
        obtain ⟨h13, hJ⟩ := m_gn hJ
        refine Rn_ev srt308 49 rfl rfl rfl (op_ia sh89 h13 (k := (v8 + (ci 4)).toNatClampNeg) rfl) ?_
        refine Rn_sq srt308 50 2 (pc' := (if (s.1 89 (v8 + (ci 4)).toNatClampNeg) = (ci (-1)) then 85 else 89)) (ls' := [some (.ref 88), some (.int x1), some (.int x2), some (.int x3), some (.int x4), some (.int v8)]) (st' := [(.int x3)]) (h1 := (SH, s)) rfl (Rn_if (fun h14 => ?_) (fun h14 => ?_))
        · replace hJ := m_ifp h14 hJ
          refine Rn_sq srt308 52 2 (pc' := 90) (ls' := [some (.ref 88), some (.int x1), some (.int x2), some (.int x3), some (.int x4), some (.int v8)]) (st' := [(.int (ci 1)), (.int x3)]) (h1 := (SH, s)) rfl ?_
          exact Rn_weaken (a := [some (.ref 88), some (.int x1), some (.int x2), none, some (.int x4), none]) (b := [some (.ref 88), some (.int x1), some (.int x2), some (.int x3), some (.int x4), some (.int v8)]) (And.intro rfl (And.intro rfl (And.intro rfl (And.intro rfl trivial)))) rfl (k_X12_saw_90 d hJ hC)
        · replace hJ := m_ifn h14 hJ
          refine Rn_sq srt308 54 1 (pc' := 90) (ls' := [some (.ref 88), some (.int x1), some (.int x2), some (.int x3), some (.int x4), some (.int v8)]) (st' := [(.int (ci 0)), (.int x3)]) (h1 := (SH, s)) rfl ?_
          exact Rn_weaken (a := [some (.ref 88), some (.int x1), some (.int x2), none, some (.int x4), none]) (b := [some (.ref 88), some (.int x1), some (.int x2), some (.int x3), some (.int x4), some (.int v8)]) (And.intro rfl (And.intro rfl (And.intro rfl (And.intro rfl trivial)))) rfl (k_X12_saw_90 d hJ hC)
      · replace hJ := m_ifn h12 hJ
        exact Rn_weaken (a := [some (.ref 88), some (.int x1), some (.int x2), none, some (.int x4), none]) (b := [some (.ref 88), some (.int x1), some (.int x2), some (.int x3), some (.int x4), some (.int v8)]) (And.intro rfl (And.intro rfl (And.intro rfl (And.intro rfl trivial)))) rfl (k_X12_saw_98 d hJ hC)
def F_X12_saw_L24 (s : mG) (x1 : Int32) (x2 : Int32) (x3 : Int32) (x4 : Int32) : Option (Int32) := whl (fun (v : (Int32 × Int32 × Int32 × Int32)) => F_X12_saw_B24 s v.1 v.2.1 v.2.2.1 v.2.2.2) (x1, x2, x3, x4)
theorem k_X12_saw_L24 {N : Nat} {xs : Nat → Int32} (d : Nat) {r : Option Value × mH} {s : mG} {x1 : Int32} {x2 : Int32} {x3 : Int32} {x4 : Int32} {τ : (Int32)} (hJ : F_X12_saw_L24 s x1 x2 x3 x4 = some τ) (hC : (fun τ => r = (some (.int τ), (SH, s))) τ) : Rn N xs (d + 2) me308 24 [some (.ref 88), some (.int x1), some (.int x2), some (.int x3), some (.int x4), none] [] (SH, s) r :=
  whl_link (P := fun (v : (Int32 × Int32 × Int32 × Int32)) => Rn N xs (d + 2) me308 24 [some (.ref 88), some (.int v.1), some (.int v.2.1), some (.int v.2.2.1), some (.int v.2.2.2), none] [] (SH, s) r) (C := (C_X12_saw_24 N xs s d r (fun τ => r = (some (.int τ), (SH, s))))) (fun v τ h1 h2 => k_X12_saw_B24 d h1 h2) (fun _ h => h) (fun _ h => h) _ _ hJ hC
def F_X12_saw (s : mG) (a1 : Int32) (a2 : Int32) : Option (Int32) :=
  b1 (F_X12_isGuest s a1) fun v2 =>
  if v2 = 0 then
    F_X12_saw_17 s
  else
    b1 (F_X12_isIn s a2 (ci 0) (ci 1)) fun v5 =>
    if v5 = 0 then
      F_X12_saw_17 s
    else
      F_X12_saw_L24 s a1 a2 (ci 0) (ci 0)
set_option maxRecDepth 4000 in
theorem k_X12_saw_r {N : Nat} {xs : Nat → Int32} (d : Nat) {r : Option Value × mH} {s : mG} {a1 : Int32} {a2 : Int32} {τ : (Int32)} (hJ : F_X12_saw s a1 a2 = some τ) (hC : (fun τ => r = (some (.int τ), (SH, s))) τ) : Rn N xs (d + 2) me308 0 [some (.ref 88), some (.int a1), some (.int a2), none, none, none] [] (SH, s) r := by
  unfold F_X12_saw at hJ
  refine Rn_sq srt308 0 2 (pc' := 2) (ls' := [some (.ref 88), some (.int a1), some (.int a2), none, none, none]) (st' := [(.int a1), (.ref 88)]) (h1 := (SH, s)) rfl ?_
  obtain ⟨v2, h1, hJ⟩ := m_b1 hJ
  refine Rn_call srt308 2 rfl rfl rfl ⟨Nat.le_of_ble_eq_true rfl, Nat.le_of_ble_eq_true rfl, rfl, Nat.le_of_ble_eq_true rfl⟩ (k_X12_isGuest (d) h1) (show Rn N xs (d + 2) me308 5 [some (.ref 88), some (.int a1), some (.int a2), none, none, none] [(.int v2)] (SH, s) r from ?_)
  refine Rn_sq srt308 3 1 (pc' := (if v2 = 0 then 17 else 8)) (ls' := [some (.ref 88), some (.int a1), some (.int a2), none, none, none]) (st' := []) (h1 := (SH, s)) rfl (Rn_if (fun h3 => ?_) (fun h3 => ?_))
  · replace hJ := m_ifp h3 hJ
    exact Rn_weaken (a := [none, none, none, none, none, none]) (b := [some (.ref 88), some (.int a1), some (.int a2), none, none, none]) trivial rfl (k_X12_saw_17 d hJ hC)
  · replace hJ := m_ifn h3 hJ
    refine Rn_sq srt308 4 3 (pc' := 11) (ls' := [some (.ref 88), some (.int a1), some (.int a2), none, none, none]) (st' := [(.int (ci 1)), (.int (ci 0)), (.int a2)]) (h1 := (SH, s)) rfl ?_
    obtain ⟨v5, h4, hJ⟩ := m_b1 hJ
    refine Rn_call srt308 7 rfl rfl rfl ⟨Nat.le_of_ble_eq_true rfl, Nat.le_of_ble_eq_true rfl, rfl, Nat.le_of_ble_eq_true rfl⟩ (k_X12_isIn (d + 1) h4) (show Rn N xs (d + 2) me308 14 [some (.ref 88), some (.int a1), some (.int a2), none, none, none] [(.int v5)] (SH, s) r from ?_)
    refine Rn_sq srt308 8 1 (pc' := (if v5 = 0 then 17 else 19)) (ls' := [some (.ref 88), some (.int a1), some (.int a2), none, none, none]) (st' := []) (h1 := (SH, s)) rfl (Rn_if (fun h6 => ?_) (fun h6 => ?_))
    · replace hJ := m_ifp h6 hJ
      exact Rn_weaken (a := [none, none, none, none, none, none]) (b := [some (.ref 88), some (.int a1), some (.int a2), none, none, none]) trivial rfl (k_X12_saw_17 d hJ hC)
    · replace hJ := m_ifn h6 hJ
      refine Rn_sq srt308 11 4 (pc' := 24) (ls' := [some (.ref 88), some (.int a1), some (.int a2), some (.int (ci 0)), some (.int (ci 0)), none]) (st' := []) (h1 := (SH, s)) rfl ?_
      exact (k_X12_saw_L24 d hJ hC)
theorem k_X12_saw {N : Nat} {xs : Nat → Int32} (d : Nat) {s : mG} {a1 : Int32} {a2 : Int32} {τ : (Int32)} (hJ : F_X12_saw s a1 a2 = some τ) : Rn N xs (d + 2) me308 0 [some (.ref 88), some (.int a1), some (.int a2), none, none, none] [] (SH, s) (some (.int τ), (SH, s)) := k_X12_saw_r d hJ rfl
/-! IsHeInModel.by(II)I -/
theorem srt309 : m_srt mc309 = true := by decide +kernel
def F_X12_by_18 (s : mG) : Option (Int32) :=
  some (ci (-1))
set_option maxRecDepth 4000 in
theorem k_X12_by_18 {N : Nat} {xs : Nat → Int32} (d : Nat) {r : Option Value × mH} {s : mG} {τ : (Int32)} (hJ : F_X12_by_18 s = some τ) (hC : (fun τ => r = (some (.int τ), (SH, s))) τ) : Rn N xs (d + 1) me309 18 [none, none, none, none, none] [] (SH, s) r := by
  unfold F_X12_by_18 at hJ
  refine Rn_sq srt309 10 1 (pc' := 19) (ls' := [none, none, none, none, none]) (st' := [(.int (ci (-1)))]) (h1 := (SH, s)) rfl ?_
  rw [← Option.some.inj hJ] at hC
  have hC : r = (some (.int (ci (-1))), (SH, s)) := hC
  subst hC
  exact Rn_ret srt309 11 rfl rfl rfl
def C_X12_by_25 (N : Nat) (xs : Nat → Int32) (s : mG) (d : Nat) (r : Option Value × mH) (C : (Int32) → Prop) : ((Int32 × Int32 × Int32 × Int32) ⊕ (Int32)) → Prop
  | .inl v => Rn N xs (d + 1) me309 25 [some (.ref 88), some (.int v.1), some (.int v.2.1), some (.int v.2.2.1), some (.int v.2.2.2)] [] (SH, s) r
  | .inr a => C a
def F_X12_by_88 (s : mG) (x1 : Int32) (x2 : Int32) (x4 : Int32) (y0 : Int32) (y1 : Int32) : Option ((Int32 × Int32 × Int32 × Int32) ⊕ (Int32)) :=
  some (Sum.inl (x1, x2, (y0 + y1), (x4 + ci 1)))
set_option maxRecDepth 4000 in
theorem k_X12_by_88 {N : Nat} {xs : Nat → Int32} (d : Nat) {r : Option Value × mH} {s : mG} {x1 : Int32} {x2 : Int32} {x4 : Int32} {y0 : Int32} {y1 : Int32} {τ : ((Int32 × Int32 × Int32 × Int32) ⊕ (Int32))} (hJ : F_X12_by_88 s x1 x2 x4 y0 y1 = some τ) (hC : (C_X12_by_25 N xs s d r (fun τ => r = (some (.int τ), (SH, s)))) τ) : Rn N xs (d + 1) me309 88 [some (.ref 88), some (.int x1), some (.int x2), none, some (.int x4)] [(.int y1), (.int y0)] (SH, s) r := by
  unfold F_X12_by_88 at hJ
  refine Rn_sq srt309 54 4 (pc' := 25) (ls' := [some (.ref 88), some (.int x1), some (.int x2), some (.int (y0 + y1)), some (.int (x4 + ci 1))]) (st' := []) (h1 := (SH, s)) rfl ?_
  rw [← Option.some.inj hJ] at hC
  exact hC
def F_X12_by_87 (s : mG) (x1 : Int32) (x2 : Int32) (x4 : Int32) (y0 : Int32) : Option ((Int32 × Int32 × Int32 × Int32) ⊕ (Int32)) :=
  F_X12_by_88 s x1 x2 x4 y0 (ci 0)
set_option maxRecDepth 4000 in
theorem k_X12_by_87 {N : Nat} {xs : Nat → Int32} (d : Nat) {r : Option Value × mH} {s : mG} {x1 : Int32} {x2 : Int32} {x4 : Int32} {y0 : Int32} {τ : ((Int32 × Int32 × Int32 × Int32) ⊕ (Int32))} (hJ : F_X12_by_87 s x1 x2 x4 y0 = some τ) (hC : (C_X12_by_25 N xs s d r (fun τ => r = (some (.int τ), (SH, s)))) τ) : Rn N xs (d + 1) me309 87 [some (.ref 88), some (.int x1), some (.int x2), none, some (.int x4)] [(.int y0)] (SH, s) r := by
  unfold F_X12_by_87 at hJ
  refine Rn_sq srt309 53 1 (pc' := 88) (ls' := [some (.ref 88), some (.int x1), some (.int x2), none, some (.int x4)]) (st' := [(.int (ci 0)), (.int y0)]) (h1 := (SH, s)) rfl ?_
  exact (k_X12_by_88 d hJ hC)
def F_X12_by_61 (s : mG) (x1 : Int32) (x2 : Int32) (x4 : Int32) (y0 : Int32) (y1 : Int32) (y2 : Int32) : Option ((Int32 × Int32 × Int32 × Int32) ⊕ (Int32)) :=
  if y1 = y2 then
    if (((c16 235) + ((ci 5) * x4)) + (ci 3)) < 0 ∨ 1894 ≤ (((c16 235) + ((ci 5) * x4)) + (ci 3)).toNatClampNeg then none else
    if (s.1 89 (((c16 235) + ((ci 5) * x4)) + (ci 3)).toNatClampNeg) = x1 then
      F_X12_by_88 s x1 x2 x4 y0 (ci 1)
    else
      F_X12_by_87 s x1 x2 x4 y0
  else
    F_X12_by_87 s x1 x2 x4 y0
set_option maxRecDepth 4000 in
theorem k_X12_by_61 {N : Nat} {xs : Nat → Int32} (d : Nat) {r : Option Value × mH} {s : mG} {x1 : Int32} {x2 : Int32} {x4 : Int32} {y0 : Int32} {y1 : Int32} {y2 : Int32} {τ : ((Int32 × Int32 × Int32 × Int32) ⊕ (Int32))} (hJ : F_X12_by_61 s x1 x2 x4 y0 y1 y2 = some τ) (hC : (C_X12_by_25 N xs s d r (fun τ => r = (some (.int τ), (SH, s)))) τ) : Rn N xs (d + 1) me309 61 [some (.ref 88), some (.int x1), some (.int x2), none, some (.int x4)] [(.int y2), (.int y1), (.int y0)] (SH, s) r := by
  unfold F_X12_by_61 at hJ
  refine Rn_sq srt309 38 1 (pc' := (if y1 = y2 then 64 else 87)) (ls' := [some (.ref 88), some (.int x1), some (.int x2), none, some (.int x4)]) (st' := [(.int y0)]) (h1 := (SH, s)) rfl (Rn_if (fun h10 => ?_) (fun h10 => ?_))
  · replace hJ := m_ifp h10 hJ
    refine Rn_sq srt309 39 9 (pc' := 78) (ls' := [some (.ref 88), some (.int x1), some (.int x2), none, some (.int x4)]) (st' := [(.int (((c16 235) + ((ci 5) * x4)) + (ci 3))), (.ref 89), (.int y0)]) (h1 := (SH, s)) rfl ?_
    obtain ⟨h11, hJ⟩ := m_gn hJ
    refine Rn_ev srt309 48 rfl rfl rfl (op_ia sh89 h11 (k := (((c16 235) + ((ci 5) * x4)) + (ci 3)).toNatClampNeg) rfl) ?_
    refine Rn_sq srt309 49 2 (pc' := (if (s.1 89 (((c16 235) + ((ci 5) * x4)) + (ci 3)).toNatClampNeg) = x1 then 83 else 87)) (ls' := [some (.ref 88), some (.int x1), some (.int x2), none, some (.int x4)]) (st' := [(.int y0)]) (h1 := (SH, s)) rfl (Rn_if (fun h12 => ?_) (fun h12 => ?_))
    · replace hJ := m_ifp h12 hJ
      refine Rn_sq srt309 51 2 (pc' := 88) (ls' := [some (.ref 88), some (.int x1), some (.int x2), none, some (.int x4)]) (st' := [(.int (ci 1)), (.int y0)]) (h1 := (SH, s)) rfl ?_
      exact (k_X12_by_88 d hJ hC)
    · replace hJ := m_ifn h12 hJ
      exact (k_X12_by_87 d hJ hC)
  · replace hJ := m_ifn h10 hJ
    exact (k_X12_by_87 d hJ hC)
def F_X12_by_B25 (s : mG) (x1 : Int32) (x2 : Int32) (x3 : Int32) (x4 : Int32) : Option ((Int32 × Int32 × Int32 × Int32) ⊕ (Int32)) :=
  if (s.1 89 2) ≤ x4 then
    some (Sum.inr x3)
  else
    if (((c16 235) + ((ci 5) * x4)) + (ci 1)) < 0 ∨ 1894 ≤ (((c16 235) + ((ci 5) * x4)) + (ci 1)).toNatClampNeg then none else
    if x2 = 0 then
      F_X12_by_61 s x1 x2 x4 x3 (s.1 89 (((c16 235) + ((ci 5) * x4)) + (ci 1)).toNatClampNeg) (ci 0)
    else
      F_X12_by_61 s x1 x2 x4 x3 (s.1 89 (((c16 235) + ((ci 5) * x4)) + (ci 1)).toNatClampNeg) (ci 1)
set_option maxRecDepth 4000 in
theorem k_X12_by_B25 {N : Nat} {xs : Nat → Int32} (d : Nat) {r : Option Value × mH} {s : mG} {x1 : Int32} {x2 : Int32} {x3 : Int32} {x4 : Int32} {τ : ((Int32 × Int32 × Int32 × Int32) ⊕ (Int32))} (hJ : F_X12_by_B25 s x1 x2 x3 x4 = some τ) (hC : (C_X12_by_25 N xs s d r (fun τ => r = (some (.int τ), (SH, s)))) τ) : Rn N xs (d + 1) me309 25 [some (.ref 88), some (.int x1), some (.int x2), some (.int x3), some (.int x4)] [] (SH, s) r := by
  unfold F_X12_by_B25 at hJ
  refine Rn_sq srt309 16 4 (pc' := 32) (ls' := [some (.ref 88), some (.int x1), some (.int x2), some (.int x3), some (.int x4)]) (st' := [(.int (ci 2)), (.ref 89), (.int x4)]) (h1 := (SH, s)) rfl ?_
  refine Rn_ev srt309 20 rfl rfl rfl (op_ia sh89 (by decide) (k := 2) rfl) ?_
  refine Rn_sq srt309 21 1 (pc' := (if (s.1 89 2) ≤ x4 then 96 else 36)) (ls' := [some (.ref 88), some (.int x1), some (.int x2), some (.int x3), some (.int x4)]) (st' := []) (h1 := (SH, s)) rfl (Rn_if (fun h7 => ?_) (fun h7 => ?_))
  · replace hJ := m_ifp h7 hJ
    refine Rn_sq srt309 58 1 (pc' := 97) (ls' := [some (.ref 88), some (.int x1), some (.int x2), some (.int x3), some (.int x4)]) (st' := [(.int x3)]) (h1 := (SH, s)) rfl ?_
    rw [← Option.some.inj hJ] at hC
    have hC : r = (some (.int x3), (SH, s)) := hC
    subst hC
    exact Rn_ret srt309 59 rfl rfl rfl
  · replace hJ := m_ifn h7 hJ
    refine Rn_sq srt309 22 10 (pc' := 51) (ls' := [some (.ref 88), some (.int x1), some (.int x2), some (.int x3), some (.int x4)]) (st' := [(.int (((c16 235) + ((ci 5) * x4)) + (ci 1))), (.ref 89), (.int x3)]) (h1 := (SH, s)) rfl ?_
    obtain ⟨h8, hJ⟩ := m_gn hJ
    refine Rn_ev srt309 32 rfl rfl rfl (op_ia sh89 h8 (k := (((c16 235) + ((ci 5) * x4)) + (ci 1)).toNatClampNeg) rfl) ?_
    refine Rn_sq srt309 33 2 (pc' := (if x2 = 0 then 56 else 60)) (ls' := [some (.ref 88), some (.int x1), some (.int x2), some (.int x3), some (.int x4)]) (st' := [(.int (s.1 89 (((c16 235) + ((ci 5) * x4)) + (ci 1)).toNatClampNeg)), (.int x3)]) (h1 := (SH, s)) rfl (Rn_if (fun h9 => ?_) (fun h9 => ?_))
    · replace hJ := m_ifp h9 hJ
      refine Rn_sq srt309 35 2 (pc' := 61) (ls' := [some (.ref 88), some (.int x1), some (.int x2), some (.int x3), some (.int x4)]) (st' := [(.int (ci 0)), (.int (s.1 89 (((c16 235) + ((ci 5) * x4)) + (ci 1)).toNatClampNeg)), (.int x3)]) (h1 := (SH, s)) rfl ?_
      exact Rn_weaken (a := [some (.ref 88), some (.int x1), some (.int x2), none, some (.int x4)]) (b := [some (.ref 88), some (.int x1), some (.int x2), some (.int x3), some (.int x4)]) (And.intro rfl (And.intro rfl (And.intro rfl (And.intro rfl trivial)))) rfl (k_X12_by_61 d hJ hC)
    · replace hJ := m_ifn h9 hJ
      refine Rn_sq srt309 37 1 (pc' := 61) (ls' := [some (.ref 88), some (.int x1), some (.int x2), some (.int x3), some (.int x4)]) (st' := [(.int (ci 1)), (.int (s.1 89 (((c16 235) + ((ci 5) * x4)) + (ci 1)).toNatClampNeg)), (.int x3)]) (h1 := (SH, s)) rfl ?_
      exact Rn_weaken (a := [some (.ref 88), some (.int x1), some (.int x2), none, some (.int x4)]) (b := [some (.ref 88), some (.int x1), some (.int x2), some (.int x3), some (.int x4)]) (And.intro rfl (And.intro rfl (And.intro rfl (And.intro rfl trivial)))) rfl (k_X12_by_61 d hJ hC)
def F_X12_by_L25 (s : mG) (x1 : Int32) (x2 : Int32) (x3 : Int32) (x4 : Int32) : Option (Int32) := whl (fun (v : (Int32 × Int32 × Int32 × Int32)) => F_X12_by_B25 s v.1 v.2.1 v.2.2.1 v.2.2.2) (x1, x2, x3, x4)
theorem k_X12_by_L25 {N : Nat} {xs : Nat → Int32} (d : Nat) {r : Option Value × mH} {s : mG} {x1 : Int32} {x2 : Int32} {x3 : Int32} {x4 : Int32} {τ : (Int32)} (hJ : F_X12_by_L25 s x1 x2 x3 x4 = some τ) (hC : (fun τ => r = (some (.int τ), (SH, s))) τ) : Rn N xs (d + 1) me309 25 [some (.ref 88), some (.int x1), some (.int x2), some (.int x3), some (.int x4)] [] (SH, s) r :=
  whl_link (P := fun (v : (Int32 × Int32 × Int32 × Int32)) => Rn N xs (d + 1) me309 25 [some (.ref 88), some (.int v.1), some (.int v.2.1), some (.int v.2.2.1), some (.int v.2.2.2)] [] (SH, s) r) (C := (C_X12_by_25 N xs s d r (fun τ => r = (some (.int τ), (SH, s))))) (fun v τ h1 h2 => k_X12_by_B25 d h1 h2) (fun _ h => h) (fun _ h => h) _ _ hJ hC
def F_X12_by (s : mG) (a1 : Int32) (a2 : Int32) : Option (Int32) :=
  b1 (F_X12_isIn s a1 (ci 0) (ci 1)) fun v2 =>
  if v2 = 0 then
    F_X12_by_18 s
  else
    b1 (F_X12_isIn s a2 (ci 0) (ci 1)) fun v5 =>
    if v5 = 0 then
      F_X12_by_18 s
    else
      F_X12_by_L25 s a1 a2 (ci 0) (ci 0)
set_option maxRecDepth 4000 in
theorem k_X12_by_r {N : Nat} {xs : Nat → Int32} (d : Nat) {r : Option Value × mH} {s : mG} {a1 : Int32} {a2 : Int32} {τ : (Int32)} (hJ : F_X12_by s a1 a2 = some τ) (hC : (fun τ => r = (some (.int τ), (SH, s))) τ) : Rn N xs (d + 1) me309 0 [some (.ref 88), some (.int a1), some (.int a2), none, none] [] (SH, s) r := by
  unfold F_X12_by at hJ
  refine Rn_sq srt309 0 3 (pc' := 3) (ls' := [some (.ref 88), some (.int a1), some (.int a2), none, none]) (st' := [(.int (ci 1)), (.int (ci 0)), (.int a1)]) (h1 := (SH, s)) rfl ?_
  obtain ⟨v2, h1, hJ⟩ := m_b1 hJ
  refine Rn_call srt309 3 rfl rfl rfl ⟨Nat.le_of_ble_eq_true rfl, Nat.le_of_ble_eq_true rfl, rfl, Nat.le_of_ble_eq_true rfl⟩ (k_X12_isIn (d) h1) (show Rn N xs (d + 1) me309 6 [some (.ref 88), some (.int a1), some (.int a2), none, none] [(.int v2)] (SH, s) r from ?_)
  refine Rn_sq srt309 4 1 (pc' := (if v2 = 0 then 18 else 9)) (ls' := [some (.ref 88), some (.int a1), some (.int a2), none, none]) (st' := []) (h1 := (SH, s)) rfl (Rn_if (fun h3 => ?_) (fun h3 => ?_))
  · replace hJ := m_ifp h3 hJ
    exact Rn_weaken (a := [none, none, none, none, none]) (b := [some (.ref 88), some (.int a1), some (.int a2), none, none]) trivial rfl (k_X12_by_18 d hJ hC)
  · replace hJ := m_ifn h3 hJ
    refine Rn_sq srt309 5 3 (pc' := 12) (ls' := [some (.ref 88), some (.int a1), some (.int a2), none, none]) (st' := [(.int (ci 1)), (.int (ci 0)), (.int a2)]) (h1 := (SH, s)) rfl ?_
    obtain ⟨v5, h4, hJ⟩ := m_b1 hJ
    refine Rn_call srt309 8 rfl rfl rfl ⟨Nat.le_of_ble_eq_true rfl, Nat.le_of_ble_eq_true rfl, rfl, Nat.le_of_ble_eq_true rfl⟩ (k_X12_isIn (d) h4) (show Rn N xs (d + 1) me309 15 [some (.ref 88), some (.int a1), some (.int a2), none, none] [(.int v5)] (SH, s) r from ?_)
    refine Rn_sq srt309 9 1 (pc' := (if v5 = 0 then 18 else 20)) (ls' := [some (.ref 88), some (.int a1), some (.int a2), none, none]) (st' := []) (h1 := (SH, s)) rfl (Rn_if (fun h6 => ?_) (fun h6 => ?_))
    · replace hJ := m_ifp h6 hJ
      exact Rn_weaken (a := [none, none, none, none, none]) (b := [some (.ref 88), some (.int a1), some (.int a2), none, none]) trivial rfl (k_X12_by_18 d hJ hC)
    · replace hJ := m_ifn h6 hJ
      refine Rn_sq srt309 12 4 (pc' := 25) (ls' := [some (.ref 88), some (.int a1), some (.int a2), some (.int (ci 0)), some (.int (ci 0))]) (st' := []) (h1 := (SH, s)) rfl ?_
      exact (k_X12_by_L25 d hJ hC)
theorem k_X12_by {N : Nat} {xs : Nat → Int32} (d : Nat) {s : mG} {a1 : Int32} {a2 : Int32} {τ : (Int32)} (hJ : F_X12_by s a1 a2 = some τ) : Rn N xs (d + 1) me309 0 [some (.ref 88), some (.int a1), some (.int a2), none, none] [] (SH, s) (some (.int τ), (SH, s)) := k_X12_by_r d hJ rfl
/-! IsHeInModel.carries()I -/
theorem srt310 : m_srt mc310 = true := by decide +kernel
def C_X12_carries_4 (N : Nat) (xs : Nat → Int32) (d : Nat) (r : Option Value × mH) (C : (Int32 × mG) → Prop) : ((Int32 × Int32 × mG) ⊕ (Int32 × mG)) → Prop
  | .inl v => Rn N xs (d + 5) me310 4 [some (.ref 88), some (.int v.1), some (.int v.2.1)] [] (SH, v.2.2) r
  | .inr a => C a
def F_X12_carries_39 (x1 : Int32) (x2 : Int32) (s : mG) : Option ((Int32 × Int32 × mG) ⊕ (Int32 × mG)) :=
  some (Sum.inl (x1, (x2 + ci 1), s))
set_option maxRecDepth 4000 in
theorem k_X12_carries_39 {N : Nat} {xs : Nat → Int32} (d : Nat) {r : Option Value × mH} {s : mG} {x1 : Int32} {x2 : Int32} {τ : ((Int32 × Int32 × mG) ⊕ (Int32 × mG))} (hJ : F_X12_carries_39 x1 x2 s = some τ) (hC : (C_X12_carries_4 N xs d r (fun τ => r = (some (.int τ.1), (SH, τ.2)))) τ) : Rn N xs (d + 5) me310 39 [some (.ref 88), some (.int x1), some (.int x2)] [] (SH, s) r := by
  unfold F_X12_carries_39 at hJ
  refine Rn_sq srt310 24 2 (pc' := 4) (ls' := [some (.ref 88), some (.int x1), some (.int (x2 + ci 1))]) (st' := []) (h1 := (SH, s)) rfl ?_
  rw [← Option.some.inj hJ] at hC
  exact hC
def F_X12_carries_37 (x2 : Int32) (s : mG) : Option ((Int32 × Int32 × mG) ⊕ (Int32 × mG)) :=
  F_X12_carries_39 x2 x2 s
set_option maxRecDepth 4000 in
theorem k_X12_carries_37 {N : Nat} {xs : Nat → Int32} (d : Nat) {r : Option Value × mH} {s : mG} {x2 : Int32} {τ : ((Int32 × Int32 × mG) ⊕ (Int32 × mG))} (hJ : F_X12_carries_37 x2 s = some τ) (hC : (C_X12_carries_4 N xs d r (fun τ => r = (some (.int τ.1), (SH, τ.2)))) τ) : Rn N xs (d + 5) me310 37 [some (.ref 88), none, some (.int x2)] [] (SH, s) r := by
  unfold F_X12_carries_37 at hJ
  refine Rn_sq srt310 22 2 (pc' := 39) (ls' := [some (.ref 88), some (.int x2), some (.int x2)]) (st' := []) (h1 := (SH, s)) rfl ?_
  exact (k_X12_carries_39 d hJ hC)
def F_X12_carries_B4 (x1 : Int32) (x2 : Int32) (s : mG) : Option ((Int32 × Int32 × mG) ⊕ (Int32 × mG)) :=
  if (s.1 89 112) ≤ x2 then
    some (Sum.inr (x1, s))
  else
    if x1 = (ci (-1)) then
      F_X12_carries_37 x2 s
    else
      b2 (F_X12_saysNow (c8 22) x2 s) fun v5 s4 =>
      b2 (F_X12_saysNow (c8 22) x1 s4) fun v8 s7 =>
      if v5 ≤ v8 then
        F_X12_carries_39 x1 x2 s7
      else
        F_X12_carries_37 x2 s7
set_option maxRecDepth 4000 in
theorem k_X12_carries_B4 {N : Nat} {xs : Nat → Int32} (d : Nat) {r : Option Value × mH} {s : mG} {x1 : Int32} {x2 : Int32} {τ : ((Int32 × Int32 × mG) ⊕ (Int32 × mG))} (hJ : F_X12_carries_B4 x1 x2 s = some τ) (hC : (C_X12_carries_4 N xs d r (fun τ => r = (some (.int τ.1), (SH, τ.2)))) τ) : Rn N xs (d + 5) me310 4 [some (.ref 88), some (.int x1), some (.int x2)] [] (SH, s) r := by
  unfold F_X12_carries_B4 at hJ
  refine Rn_sq srt310 4 4 (pc' := 11) (ls' := [some (.ref 88), some (.int x1), some (.int x2)]) (st' := [(.int (c8 112)), (.ref 89), (.int x2)]) (h1 := (SH, s)) rfl ?_
  refine Rn_ev srt310 8 rfl rfl rfl (op_ia sh89 (by decide) (k := 112) rfl) ?_
  refine Rn_sq srt310 9 1 (pc' := (if (s.1 89 112) ≤ x2 then 45 else 15)) (ls' := [some (.ref 88), some (.int x1), some (.int x2)]) (st' := []) (h1 := (SH, s)) rfl (Rn_if (fun h1 => ?_) (fun h1 => ?_))
  · replace hJ := m_ifp h1 hJ
    refine Rn_sq srt310 26 1 (pc' := 46) (ls' := [some (.ref 88), some (.int x1), some (.int x2)]) (st' := [(.int x1)]) (h1 := (SH, s)) rfl ?_
    rw [← Option.some.inj hJ] at hC
    have hC : r = (some (.int x1), (SH, s)) := hC
    subst hC
    exact Rn_ret srt310 27 rfl rfl rfl
  · replace hJ := m_ifn h1 hJ
    refine Rn_sq srt310 10 3 (pc' := (if x1 = (ci (-1)) then 37 else 20)) (ls' := [some (.ref 88), some (.int x1), some (.int x2)]) (st' := []) (h1 := (SH, s)) rfl (Rn_if (fun h2 => ?_) (fun h2 => ?_))
    · replace hJ := m_ifp h2 hJ
      exact Rn_weaken (a := [some (.ref 88), none, some (.int x2)]) (b := [some (.ref 88), some (.int x1), some (.int x2)]) (And.intro rfl (And.intro rfl trivial)) rfl (k_X12_carries_37 d hJ hC)
    · replace hJ := m_ifn h2 hJ
      refine Rn_sq srt310 13 3 (pc' := 24) (ls' := [some (.ref 88), some (.int x1), some (.int x2)]) (st' := [(.int x2), (.int (c8 22)), (.ref 88)]) (h1 := (SH, s)) rfl ?_
      obtain ⟨v5, s4, h3, hJ⟩ := m_b2 hJ
      refine Rn_call srt310 16 rfl rfl rfl ⟨Nat.le_of_ble_eq_true rfl, Nat.le_of_ble_eq_true rfl, rfl, Nat.le_of_ble_eq_true rfl⟩ (k_X12_saysNow (d) h3) (show Rn N xs (d + 5) me310 27 [some (.ref 88), some (.int x1), some (.int x2)] [(.int v5)] (SH, s4) r from ?_)
      refine Rn_sq srt310 17 3 (pc' := 31) (ls' := [some (.ref 88), some (.int x1), some (.int x2)]) (st' := [(.int x1), (.int (c8 22)), (.ref 88), (.int v5)]) (h1 := (SH, s4)) rfl ?_
      obtain ⟨v8, s7, h6, hJ⟩ := m_b2 hJ
      refine Rn_call srt310 20 rfl rfl rfl ⟨Nat.le_of_ble_eq_true rfl, Nat.le_of_ble_eq_true rfl, rfl, Nat.le_of_ble_eq_true rfl⟩ (k_X12_saysNow (d) h6) (show Rn N xs (d + 5) me310 34 [some (.ref 88), some (.int x1), some (.int x2)] [(.int v8), (.int v5)] (SH, s7) r from ?_)
      refine Rn_sq srt310 21 1 (pc' := (if v5 ≤ v8 then 39 else 37)) (ls' := [some (.ref 88), some (.int x1), some (.int x2)]) (st' := []) (h1 := (SH, s7)) rfl (Rn_if (fun h9 => ?_) (fun h9 => ?_))
      · replace hJ := m_ifp h9 hJ
        exact (k_X12_carries_39 d hJ hC)
      · replace hJ := m_ifn h9 hJ
        exact Rn_weaken (a := [some (.ref 88), none, some (.int x2)]) (b := [some (.ref 88), some (.int x1), some (.int x2)]) (And.intro rfl (And.intro rfl trivial)) rfl (k_X12_carries_37 d hJ hC)
def F_X12_carries_L4 (x1 : Int32) (x2 : Int32) (s : mG) : Option (Int32 × mG) := whl (fun (v : (Int32 × Int32 × mG)) => F_X12_carries_B4 v.1 v.2.1 v.2.2) (x1, x2, s)
theorem k_X12_carries_L4 {N : Nat} {xs : Nat → Int32} (d : Nat) {r : Option Value × mH} {s : mG} {x1 : Int32} {x2 : Int32} {τ : (Int32 × mG)} (hJ : F_X12_carries_L4 x1 x2 s = some τ) (hC : (fun τ => r = (some (.int τ.1), (SH, τ.2))) τ) : Rn N xs (d + 5) me310 4 [some (.ref 88), some (.int x1), some (.int x2)] [] (SH, s) r :=
  whl_link (P := fun (v : (Int32 × Int32 × mG)) => Rn N xs (d + 5) me310 4 [some (.ref 88), some (.int v.1), some (.int v.2.1)] [] (SH, v.2.2) r) (C := (C_X12_carries_4 N xs d r (fun τ => r = (some (.int τ.1), (SH, τ.2))))) (fun v τ h1 h2 => k_X12_carries_B4 d h1 h2) (fun _ h => h) (fun _ h => h) _ _ hJ hC
def F_X12_carries (s : mG) : Option (Int32 × mG) :=
  F_X12_carries_L4 (ci (-1)) (ci 0) s
set_option maxRecDepth 4000 in
theorem k_X12_carries_r {N : Nat} {xs : Nat → Int32} (d : Nat) {r : Option Value × mH} {s : mG} {τ : (Int32 × mG)} (hJ : F_X12_carries s = some τ) (hC : (fun τ => r = (some (.int τ.1), (SH, τ.2))) τ) : Rn N xs (d + 5) me310 0 [some (.ref 88), none, none] [] (SH, s) r := by
  unfold F_X12_carries at hJ
  refine Rn_sq srt310 0 4 (pc' := 4) (ls' := [some (.ref 88), some (.int (ci (-1))), some (.int (ci 0))]) (st' := []) (h1 := (SH, s)) rfl ?_
  exact (k_X12_carries_L4 d hJ hC)
theorem k_X12_carries {N : Nat} {xs : Nat → Int32} (d : Nat) {s : mG} {τ : (Int32 × mG)} (hJ : F_X12_carries s = some τ) : Rn N xs (d + 5) me310 0 [some (.ref 88), none, none] [] (SH, s) (some (.int τ.1), (SH, τ.2)) := k_X12_carries_r d hJ rfl
/-! IsHeInModel.away(II)I -/
theorem srt311 : m_srt mc311 = true := by decide +kernel
def F_X12_away_29 (s : mG) : Option (Int32 × mG) :=
  some ((ci (-1)), s)
set_option maxRecDepth 4000 in
theorem k_X12_away_29 {N : Nat} {xs : Nat → Int32} (d : Nat) {r : Option Value × mH} {s : mG} {τ : (Int32 × mG)} (hJ : F_X12_away_29 s = some τ) (hC : (fun τ => r = (some (.int τ.1), (SH, τ.2))) τ) : Rn N xs (d + 4) me311 29 [none, none, none, none, none] [] (SH, s) r := by
  unfold F_X12_away_29 at hJ
  refine Rn_sq srt311 16 1 (pc' := 30) (ls' := [none, none, none, none, none]) (st' := [(.int (ci (-1)))]) (h1 := (SH, s)) rfl ?_
  rw [← Option.some.inj hJ] at hC
  have hC : r = (some (.int (ci (-1))), (SH, s)) := hC
  subst hC
  exact Rn_ret srt311 17 rfl rfl rfl
def C_X12_away_38 (N : Nat) (xs : Nat → Int32) (d : Nat) (r : Option Value × mH) (C : (Int32 × mG) → Prop) : ((Int32 × Int32 × Int32 × Int32 × mG) ⊕ (Int32 × mG)) → Prop
  | .inl v => Rn N xs (d + 4) me311 38 [some (.ref 88), some (.int v.1), some (.int v.2.1), some (.int v.2.2.1), some (.int v.2.2.2.1)] [] (SH, v.2.2.2.2) r
  | .inr a => C a
def F_X12_away_B38 (x1 : Int32) (x2 : Int32) (x3 : Int32) (x4 : Int32) (s : mG) : Option ((Int32 × Int32 × Int32 × Int32 × mG) ⊕ (Int32 × mG)) :=
  if x2 ≤ x4 then
    some (Sum.inr (x3, s))
  else
    if ((c8 27) + x1) < 0 ∨ 1894 ≤ ((c8 27) + x1).toNatClampNeg then none else
    b1 (F_X12_lesser s (c16 999) ((s.1 89 ((c8 27) + x1).toNatClampNeg) + x4)) fun v12 =>
    b2 (F_X12_saysIn (c8 21) x1 ((s.1 89 0) + x4) (s.1 89 113) v12 s) fun v15 s14 =>
    let v16 : Int32 := ((x3 * ((c16 1000) - v15)) / (c16 1000))
    some (Sum.inl (x1, x2, v16, (x4 + ci 1), s14))
set_option maxRecDepth 4000 in
theorem k_X12_away_B38 {N : Nat} {xs : Nat → Int32} (d : Nat) {r : Option Value × mH} {s : mG} {x1 : Int32} {x2 : Int32} {x3 : Int32} {x4 : Int32} {τ : ((Int32 × Int32 × Int32 × Int32 × mG) ⊕ (Int32 × mG))} (hJ : F_X12_away_B38 x1 x2 x3 x4 s = some τ) (hC : (C_X12_away_38 N xs d r (fun τ => r = (some (.int τ.1), (SH, τ.2)))) τ) : Rn N xs (d + 4) me311 38 [some (.ref 88), some (.int x1), some (.int x2), some (.int x3), some (.int x4)] [] (SH, s) r := by
  unfold F_X12_away_B38 at hJ
  refine Rn_sq srt311 22 3 (pc' := (if x2 ≤ x4 then 102 else 44)) (ls' := [some (.ref 88), some (.int x1), some (.int x2), some (.int x3), some (.int x4)]) (st' := []) (h1 := (SH, s)) rfl (Rn_if (fun h9 => ?_) (fun h9 => ?_))
  · replace hJ := m_ifp h9 hJ
    refine Rn_sq srt311 58 1 (pc' := 103) (ls' := [some (.ref 88), some (.int x1), some (.int x2), some (.int x3), some (.int x4)]) (st' := [(.int x3)]) (h1 := (SH, s)) rfl ?_
    rw [← Option.some.inj hJ] at hC
    have hC : r = (some (.int x3), (SH, s)) := hC
    subst hC
    exact Rn_ret srt311 59 rfl rfl rfl
  · replace hJ := m_ifn h9 hJ
    refine Rn_sq srt311 25 8 (pc' := 57) (ls' := [some (.ref 88), some (.int x1), some (.int x2), some (.int x3), some (.int x4)]) (st' := [(.int (ci 0)), (.ref 89), (.int x1), (.int (c8 21)), (.ref 88), (.int (c16 1000)), (.int x3)]) (h1 := (SH, s)) rfl ?_
    refine Rn_ev srt311 33 rfl rfl rfl (op_ia sh89 (by decide) (k := 0) rfl) ?_
    refine Rn_sq srt311 34 5 (pc' := 67) (ls' := [some (.ref 88), some (.int x1), some (.int x2), some (.int x3), some (.int x4)]) (st' := [(.int (c8 113)), (.ref 89), (.int ((s.1 89 0) + x4)), (.int x1), (.int (c8 21)), (.ref 88), (.int (c16 1000)), (.int x3)]) (h1 := (SH, s)) rfl ?_
    refine Rn_ev srt311 39 rfl rfl rfl (op_ia sh89 (by decide) (k := 113) rfl) ?_
    refine Rn_sq srt311 40 6 (pc' := 79) (ls' := [some (.ref 88), some (.int x1), some (.int x2), some (.int x3), some (.int x4)]) (st' := [(.int ((c8 27) + x1)), (.ref 89), (.int (c16 999)), (.int (s.1 89 113)), (.int ((s.1 89 0) + x4)), (.int x1), (.int (c8 21)), (.ref 88), (.int (c16 1000)), (.int x3)]) (h1 := (SH, s)) rfl ?_
    obtain ⟨h10, hJ⟩ := m_gn hJ
    refine Rn_ev srt311 46 rfl rfl rfl (op_ia sh89 h10 (k := ((c8 27) + x1).toNatClampNeg) rfl) ?_
    refine Rn_sq srt311 47 2 (pc' := 83) (ls' := [some (.ref 88), some (.int x1), some (.int x2), some (.int x3), some (.int x4)]) (st' := [(.int ((s.1 89 ((c8 27) + x1).toNatClampNeg) + x4)), (.int (c16 999)), (.int (s.1 89 113)), (.int ((s.1 89 0) + x4)), (.int x1), (.int (c8 21)), (.ref 88), (.int (c16 1000)), (.int x3)]) (h1 := (SH, s)) rfl ?_
    obtain ⟨v12, h11, hJ⟩ := m_b1 hJ
    refine Rn_call srt311 49 rfl rfl rfl ⟨Nat.le_of_ble_eq_true rfl, Nat.le_of_ble_eq_true rfl, rfl, Nat.le_of_ble_eq_true rfl⟩ (k_X12_lesser (d + 3) h11) (show Rn N xs (d + 4) me311 86 [some (.ref 88), some (.int x1), some (.int x2), some (.int x3), some (.int x4)] [(.int v12), (.int (s.1 89 113)), (.int ((s.1 89 0) + x4)), (.int x1), (.int (c8 21)), (.ref 88), (.int (c16 1000)), (.int x3)] (SH, s) r from ?_)
    obtain ⟨v15, s14, h13, hJ⟩ := m_b2 hJ
    refine Rn_call srt311 50 rfl rfl rfl ⟨Nat.le_of_ble_eq_true rfl, Nat.le_of_ble_eq_true rfl, rfl, Nat.le_of_ble_eq_true rfl⟩ (k_X12_saysIn (d) h13) (show Rn N xs (d + 4) me311 89 [some (.ref 88), some (.int x1), some (.int x2), some (.int x3), some (.int x4)] [(.int v15), (.int (c16 1000)), (.int x3)] (SH, s14) r from ?_)
    refine Rn_sq srt311 51 3 (pc' := 94) (ls' := [some (.ref 88), some (.int x1), some (.int x2), some (.int x3), some (.int x4)]) (st' := [(.int (c16 1000)), (.int (x3 * ((c16 1000) - v15)))]) (h1 := (SH, s14)) rfl ?_
    refine Rn_ev srt311 54 rfl rfl rfl (op_idiv (by decide)) ?_
    extract_lets +onlyGivenNames v16 at hJ
    refine Rn_sq srt311 55 3 (pc' := 38) (ls' := [some (.ref 88), some (.int x1), some (.int x2), some (.int v16), some (.int (x4 + ci 1))]) (st' := []) (h1 := (SH, s14)) rfl ?_
    rw [← Option.some.inj hJ] at hC
    exact hC
def F_X12_away_L38 (x1 : Int32) (x2 : Int32) (x3 : Int32) (x4 : Int32) (s : mG) : Option (Int32 × mG) := whl (fun (v : (Int32 × Int32 × Int32 × Int32 × mG)) => F_X12_away_B38 v.1 v.2.1 v.2.2.1 v.2.2.2.1 v.2.2.2.2) (x1, x2, x3, x4, s)
theorem k_X12_away_L38 {N : Nat} {xs : Nat → Int32} (d : Nat) {r : Option Value × mH} {s : mG} {x1 : Int32} {x2 : Int32} {x3 : Int32} {x4 : Int32} {τ : (Int32 × mG)} (hJ : F_X12_away_L38 x1 x2 x3 x4 s = some τ) (hC : (fun τ => r = (some (.int τ.1), (SH, τ.2))) τ) : Rn N xs (d + 4) me311 38 [some (.ref 88), some (.int x1), some (.int x2), some (.int x3), some (.int x4)] [] (SH, s) r :=
  whl_link (P := fun (v : (Int32 × Int32 × Int32 × Int32 × mG)) => Rn N xs (d + 4) me311 38 [some (.ref 88), some (.int v.1), some (.int v.2.1), some (.int v.2.2.1), some (.int v.2.2.2.1)] [] (SH, v.2.2.2.2) r) (C := (C_X12_away_38 N xs d r (fun τ => r = (some (.int τ.1), (SH, τ.2))))) (fun v τ h1 h2 => k_X12_away_B38 d h1 h2) (fun _ h => h) (fun _ h => h) _ _ hJ hC
def F_X12_away (a1 : Int32) (a2 : Int32) (s : mG) : Option (Int32 × mG) :=
  b1 (F_X12_isGuest s a1) fun v2 =>
  if v2 = 0 then
    F_X12_away_29 s
  else
    if ((ci 3) + a1) < 0 ∨ 1894 ≤ ((ci 3) + a1).toNatClampNeg then none else
    if (s.1 89 ((ci 3) + a1).toNatClampNeg) = 0 then
      F_X12_away_29 s
    else
      b1 (F_X12_isIn s a2 (ci 0) (c8 48)) fun v7 =>
      if v7 = 0 then
        F_X12_away_29 s
      else
        F_X12_away_L38 a1 a2 (ci 1000000) (ci 0) s
set_option maxRecDepth 4000 in
theorem k_X12_away_r {N : Nat} {xs : Nat → Int32} (d : Nat) {r : Option Value × mH} {s : mG} {a1 : Int32} {a2 : Int32} {τ : (Int32 × mG)} (hJ : F_X12_away a1 a2 s = some τ) (hC : (fun τ => r = (some (.int τ.1), (SH, τ.2))) τ) : Rn N xs (d + 4) me311 0 [some (.ref 88), some (.int a1), some (.int a2), none, none] [] (SH, s) r := by
  unfold F_X12_away at hJ
  refine Rn_sq srt311 0 2 (pc' := 2) (ls' := [some (.ref 88), some (.int a1), some (.int a2), none, none]) (st' := [(.int a1), (.ref 88)]) (h1 := (SH, s)) rfl ?_
  obtain ⟨v2, h1, hJ⟩ := m_b1 hJ
  refine Rn_call srt311 2 rfl rfl rfl ⟨Nat.le_of_ble_eq_true rfl, Nat.le_of_ble_eq_true rfl, rfl, Nat.le_of_ble_eq_true rfl⟩ (k_X12_isGuest (d + 2) h1) (show Rn N xs (d + 4) me311 5 [some (.ref 88), some (.int a1), some (.int a2), none, none] [(.int v2)] (SH, s) r from ?_)
  refine Rn_sq srt311 3 1 (pc' := (if v2 = 0 then 29 else 8)) (ls' := [some (.ref 88), some (.int a1), some (.int a2), none, none]) (st' := []) (h1 := (SH, s)) rfl (Rn_if (fun h3 => ?_) (fun h3 => ?_))
  · replace hJ := m_ifp h3 hJ
    exact Rn_weaken (a := [none, none, none, none, none]) (b := [some (.ref 88), some (.int a1), some (.int a2), none, none]) trivial rfl (k_X12_away_29 d hJ hC)
  · replace hJ := m_ifn h3 hJ
    refine Rn_sq srt311 4 5 (pc' := 15) (ls' := [some (.ref 88), some (.int a1), some (.int a2), none, none]) (st' := [(.int ((ci 3) + a1)), (.ref 89)]) (h1 := (SH, s)) rfl ?_
    obtain ⟨h4, hJ⟩ := m_gn hJ
    refine Rn_ev srt311 9 rfl rfl rfl (op_ia sh89 h4 (k := ((ci 3) + a1).toNatClampNeg) rfl) ?_
    refine Rn_sq srt311 10 1 (pc' := (if (s.1 89 ((ci 3) + a1).toNatClampNeg) = 0 then 29 else 19)) (ls' := [some (.ref 88), some (.int a1), some (.int a2), none, none]) (st' := []) (h1 := (SH, s)) rfl (Rn_if (fun h5 => ?_) (fun h5 => ?_))
    · replace hJ := m_ifp h5 hJ
      exact Rn_weaken (a := [none, none, none, none, none]) (b := [some (.ref 88), some (.int a1), some (.int a2), none, none]) trivial rfl (k_X12_away_29 d hJ hC)
    · replace hJ := m_ifn h5 hJ
      refine Rn_sq srt311 11 3 (pc' := 23) (ls' := [some (.ref 88), some (.int a1), some (.int a2), none, none]) (st' := [(.int (c8 48)), (.int (ci 0)), (.int a2)]) (h1 := (SH, s)) rfl ?_
      obtain ⟨v7, h6, hJ⟩ := m_b1 hJ
      refine Rn_call srt311 14 rfl rfl rfl ⟨Nat.le_of_ble_eq_true rfl, Nat.le_of_ble_eq_true rfl, rfl, Nat.le_of_ble_eq_true rfl⟩ (k_X12_isIn (d + 3) h6) (show Rn N xs (d + 4) me311 26 [some (.ref 88), some (.int a1), some (.int a2), none, none] [(.int v7)] (SH, s) r from ?_)
      refine Rn_sq srt311 15 1 (pc' := (if v7 = 0 then 29 else 31)) (ls' := [some (.ref 88), some (.int a1), some (.int a2), none, none]) (st' := []) (h1 := (SH, s)) rfl (Rn_if (fun h8 => ?_) (fun h8 => ?_))
      · replace hJ := m_ifp h8 hJ
        exact Rn_weaken (a := [none, none, none, none, none]) (b := [some (.ref 88), some (.int a1), some (.int a2), none, none]) trivial rfl (k_X12_away_29 d hJ hC)
      · replace hJ := m_ifn h8 hJ
        refine Rn_sq srt311 18 4 (pc' := 38) (ls' := [some (.ref 88), some (.int a1), some (.int a2), some (.int (ci 1000000)), some (.int (ci 0))]) (st' := []) (h1 := (SH, s)) rfl ?_
        exact (k_X12_away_L38 d hJ hC)
theorem k_X12_away {N : Nat} {xs : Nat → Int32} (d : Nat) {s : mG} {a1 : Int32} {a2 : Int32} {τ : (Int32 × mG)} (hJ : F_X12_away a1 a2 s = some τ) : Rn N xs (d + 4) me311 0 [some (.ref 88), some (.int a1), some (.int a2), none, none] [] (SH, s) (some (.int τ.1), (SH, τ.2)) := k_X12_away_r d hJ rfl
/-! IsHeInModel.of(II)I -/
theorem srt312 : m_srt mc312 = true := by decide +kernel
def F_X12_of (a1 : Int32) (a2 : Int32) (s : mG) : Option (Int32 × mG) :=
  b1 (F_X12_isGuest s a1) fun v2 =>
  if v2 = 0 then
    some ((c8 (-2)), s)
  else
    if a2 = ci 0 then
      if ((c8 119) + a1) < 0 ∨ 1894 ≤ ((c8 119) + a1).toNatClampNeg then none else
      let v6 : Int32 := (s.1 89 ((c8 119) + a1).toNatClampNeg)
      some (v6, s)
    else
    if a2 = ci 1 then
      if ((c16 131) + a1) < 0 ∨ 1894 ≤ ((c16 131) + a1).toNatClampNeg then none else
      let v9 : Int32 := (s.1 89 ((c16 131) + a1).toNatClampNeg)
      some (v9, s)
    else
    if a2 = ci 2 then
      if ((ci 3) + a1) < 0 ∨ 1894 ≤ ((ci 3) + a1).toNatClampNeg then none else
      let v12 : Int32 := (s.1 89 ((ci 3) + a1).toNatClampNeg)
      some (v12, s)
    else
    if a2 = ci 3 then
      if ((c8 15) + a1) < 0 ∨ 1894 ≤ ((c8 15) + a1).toNatClampNeg then none else
      let v15 : Int32 := (s.1 89 ((c8 15) + a1).toNatClampNeg)
      some (v15, s)
    else
    if a2 = ci 4 then
      if ((c8 27) + a1) < 0 ∨ 1894 ≤ ((c8 27) + a1).toNatClampNeg then none else
      let v18 : Int32 := (s.1 89 ((c8 27) + a1).toNatClampNeg)
      some (v18, s)
    else
    if a2 = ci 5 then
      b2 (F_X12_sureOf a1 s) fun v22 s21 =>
      some (v22.toInt32, s21)
    else
    b1 (F_X12_isIn s a2 (c8 6) (c8 11)) fun v24 =>
    if v24 = 0 then
      some ((c8 (-2)), s)
    else
      b2 (F_X12_saysNow (((c8 20) + a2) - (c8 6)) a1 s) fun v28 s27 =>
      some (v28, s27)
set_option maxRecDepth 4000 in
theorem k_X12_of_r {N : Nat} {xs : Nat → Int32} (d : Nat) {r : Option Value × mH} {s : mG} {a1 : Int32} {a2 : Int32} {τ : (Int32 × mG)} (hJ : F_X12_of a1 a2 s = some τ) (hC : (fun τ => r = (some (.int τ.1), (SH, τ.2))) τ) : Rn N xs (d + 6) me312 0 [some (.ref 88), some (.int a1), some (.int a2)] [] (SH, s) r := by
  unfold F_X12_of at hJ
  refine Rn_sq srt312 0 2 (pc' := 2) (ls' := [some (.ref 88), some (.int a1), some (.int a2)]) (st' := [(.int a1), (.ref 88)]) (h1 := (SH, s)) rfl ?_
  obtain ⟨v2, h1, hJ⟩ := m_b1 hJ
  refine Rn_call srt312 2 rfl rfl rfl ⟨Nat.le_of_ble_eq_true rfl, Nat.le_of_ble_eq_true rfl, rfl, Nat.le_of_ble_eq_true rfl⟩ (k_X12_isGuest (d + 4) h1) (show Rn N xs (d + 6) me312 5 [some (.ref 88), some (.int a1), some (.int a2)] [(.int v2)] (SH, s) r from ?_)
  refine Rn_sq srt312 3 1 (pc' := (if v2 = 0 then 8 else 11)) (ls' := [some (.ref 88), some (.int a1), some (.int a2)]) (st' := []) (h1 := (SH, s)) rfl (Rn_if (fun h3 => ?_) (fun h3 => ?_))
  · replace hJ := m_ifp h3 hJ
    refine Rn_sq srt312 4 1 (pc' := 10) (ls' := [some (.ref 88), some (.int a1), some (.int a2)]) (st' := [(.int (c8 (-2)))]) (h1 := (SH, s)) rfl ?_
    rw [← Option.some.inj hJ] at hC
    have hC : r = (some (.int (c8 (-2))), (SH, s)) := hC
    subst hC
    exact Rn_ret srt312 5 rfl rfl rfl
  · replace hJ := m_ifn h3 hJ
    refine Rn_sq srt312 6 1 (pc' := 12) (ls' := [some (.ref 88), some (.int a1), some (.int a2)]) (st' := [(.int a2)]) (h1 := (SH, s)) rfl ?_
    by_cases h4 : a2 = ci 0
    · replace hJ := m_ifp h4 hJ
      refine Rn_ev srt312 7 rfl rfl rfl (op_sw h4 (show _ = some (52, _) from rfl)) ?_
      refine Rn_sq srt312 8 5 (pc' := 60) (ls' := [some (.ref 88), some (.int a1), some (.int a2)]) (st' := [(.int ((c8 119) + a1)), (.ref 89)]) (h1 := (SH, s)) rfl ?_
      obtain ⟨h5, hJ⟩ := m_gn hJ
      refine Rn_ev srt312 13 rfl rfl rfl (op_ia sh89 h5 (k := ((c8 119) + a1).toNatClampNeg) rfl) ?_
      extract_lets +onlyGivenNames v6 at hJ
      rw [← Option.some.inj hJ] at hC
      have hC : r = (some (.int (s.1 89 ((c8 119) + a1).toNatClampNeg)), (SH, s)) := hC
      subst hC
      exact Rn_ret srt312 14 rfl rfl rfl
    replace hJ := m_ifn h4 hJ
    by_cases h7 : a2 = ci 1
    · replace hJ := m_ifp h7 hJ
      refine Rn_ev srt312 7 rfl rfl rfl (op_sw h7 (show _ = some (62, _) from rfl)) ?_
      refine Rn_sq srt312 15 5 (pc' := 71) (ls' := [some (.ref 88), some (.int a1), some (.int a2)]) (st' := [(.int ((c16 131) + a1)), (.ref 89)]) (h1 := (SH, s)) rfl ?_
      obtain ⟨h8, hJ⟩ := m_gn hJ
      refine Rn_ev srt312 20 rfl rfl rfl (op_ia sh89 h8 (k := ((c16 131) + a1).toNatClampNeg) rfl) ?_
      extract_lets +onlyGivenNames v9 at hJ
      rw [← Option.some.inj hJ] at hC
      have hC : r = (some (.int (s.1 89 ((c16 131) + a1).toNatClampNeg)), (SH, s)) := hC
      subst hC
      exact Rn_ret srt312 21 rfl rfl rfl
    replace hJ := m_ifn h7 hJ
    by_cases h10 : a2 = ci 2
    · replace hJ := m_ifp h10 hJ
      refine Rn_ev srt312 7 rfl rfl rfl (op_sw h10 (show _ = some (73, _) from rfl)) ?_
      refine Rn_sq srt312 22 5 (pc' := 80) (ls' := [some (.ref 88), some (.int a1), some (.int a2)]) (st' := [(.int ((ci 3) + a1)), (.ref 89)]) (h1 := (SH, s)) rfl ?_
      obtain ⟨h11, hJ⟩ := m_gn hJ
      refine Rn_ev srt312 27 rfl rfl rfl (op_ia sh89 h11 (k := ((ci 3) + a1).toNatClampNeg) rfl) ?_
      extract_lets +onlyGivenNames v12 at hJ
      rw [← Option.some.inj hJ] at hC
      have hC : r = (some (.int (s.1 89 ((ci 3) + a1).toNatClampNeg)), (SH, s)) := hC
      subst hC
      exact Rn_ret srt312 28 rfl rfl rfl
    replace hJ := m_ifn h10 hJ
    by_cases h13 : a2 = ci 3
    · replace hJ := m_ifp h13 hJ
      refine Rn_ev srt312 7 rfl rfl rfl (op_sw h13 (show _ = some (82, _) from rfl)) ?_
      refine Rn_sq srt312 29 5 (pc' := 90) (ls' := [some (.ref 88), some (.int a1), some (.int a2)]) (st' := [(.int ((c8 15) + a1)), (.ref 89)]) (h1 := (SH, s)) rfl ?_
      obtain ⟨h14, hJ⟩ := m_gn hJ
      refine Rn_ev srt312 34 rfl rfl rfl (op_ia sh89 h14 (k := ((c8 15) + a1).toNatClampNeg) rfl) ?_
      extract_lets +onlyGivenNames v15 at hJ
      rw [← Option.some.inj hJ] at hC
      have hC : r = (some (.int (s.1 89 ((c8 15) + a1).toNatClampNeg)), (SH, s)) := hC
      subst hC
      exact Rn_ret srt312 35 rfl rfl rfl
    replace hJ := m_ifn h13 hJ
    by_cases h16 : a2 = ci 4
    · replace hJ := m_ifp h16 hJ
      refine Rn_ev srt312 7 rfl rfl rfl (op_sw h16 (show _ = some (92, _) from rfl)) ?_
      refine Rn_sq srt312 36 5 (pc' := 100) (ls' := [some (.ref 88), some (.int a1), some (.int a2)]) (st' := [(.int ((c8 27) + a1)), (.ref 89)]) (h1 := (SH, s)) rfl ?_
      obtain ⟨h17, hJ⟩ := m_gn hJ
      refine Rn_ev srt312 41 rfl rfl rfl (op_ia sh89 h17 (k := ((c8 27) + a1).toNatClampNeg) rfl) ?_
      extract_lets +onlyGivenNames v18 at hJ
      rw [← Option.some.inj hJ] at hC
      have hC : r = (some (.int (s.1 89 ((c8 27) + a1).toNatClampNeg)), (SH, s)) := hC
      subst hC
      exact Rn_ret srt312 42 rfl rfl rfl
    replace hJ := m_ifn h16 hJ
    by_cases h19 : a2 = ci 5
    · replace hJ := m_ifp h19 hJ
      refine Rn_ev srt312 7 rfl rfl rfl (op_sw h19 (show _ = some (102, _) from rfl)) ?_
      refine Rn_sq srt312 43 2 (pc' := 104) (ls' := [some (.ref 88), some (.int a1), some (.int a2)]) (st' := [(.int a1), (.ref 88)]) (h1 := (SH, s)) rfl ?_
      obtain ⟨v22, s21, h20, hJ⟩ := m_b2 hJ
      refine Rn_call srt312 45 rfl rfl rfl ⟨Nat.le_of_ble_eq_true rfl, Nat.le_of_ble_eq_true rfl, rfl, Nat.le_of_ble_eq_true rfl⟩ (k_X12_sureOf (d) h20) (show Rn N xs (d + 6) me312 107 [some (.ref 88), some (.int a1), some (.int a2)] [(.long v22)] (SH, s21) r from ?_)
      refine Rn_sq srt312 46 1 (pc' := 108) (ls' := [some (.ref 88), some (.int a1), some (.int a2)]) (st' := [(.int v22.toInt32)]) (h1 := (SH, s21)) rfl ?_
      rw [← Option.some.inj hJ] at hC
      have hC : r = (some (.int v22.toInt32), (SH, s21)) := hC
      subst hC
      exact Rn_ret srt312 47 rfl rfl rfl
    replace hJ := m_ifn h19 hJ
    refine Rn_ev srt312 7 rfl rfl rfl (op_swd (tg := 109) (sw_out (by decide) (by decide) (by intro v hv1 hv2; rcases (show v = 0 ∨ v = 1 ∨ v = 2 ∨ v = 3 ∨ v = 4 ∨ v = 5 by omega) with rfl | rfl | rfl | rfl | rfl | rfl <;> assumption)) rfl) ?_
    refine Rn_sq srt312 48 3 (pc' := 114) (ls' := [some (.ref 88), some (.int a1), some (.int a2)]) (st' := [(.int (c8 11)), (.int (c8 6)), (.int a2)]) (h1 := (SH, s)) rfl ?_
    obtain ⟨v24, h23, hJ⟩ := m_b1 hJ
    refine Rn_call srt312 51 rfl rfl rfl ⟨Nat.le_of_ble_eq_true rfl, Nat.le_of_ble_eq_true rfl, rfl, Nat.le_of_ble_eq_true rfl⟩ (k_X12_isIn (d + 5) h23) (show Rn N xs (d + 6) me312 117 [some (.ref 88), some (.int a1), some (.int a2)] [(.int v24)] (SH, s) r from ?_)
    refine Rn_sq srt312 52 1 (pc' := (if v24 = 0 then 135 else 120)) (ls' := [some (.ref 88), some (.int a1), some (.int a2)]) (st' := []) (h1 := (SH, s)) rfl (Rn_if (fun h25 => ?_) (fun h25 => ?_))
    · replace hJ := m_ifp h25 hJ
      refine Rn_sq srt312 62 1 (pc' := 137) (ls' := [some (.ref 88), some (.int a1), some (.int a2)]) (st' := [(.int (c8 (-2)))]) (h1 := (SH, s)) rfl ?_
      rw [← Option.some.inj hJ] at hC
      have hC : r = (some (.int (c8 (-2))), (SH, s)) := hC
      subst hC
      exact Rn_ret srt312 63 rfl rfl rfl
    · replace hJ := m_ifn h25 hJ
      refine Rn_sq srt312 53 7 (pc' := 129) (ls' := [some (.ref 88), some (.int a1), some (.int a2)]) (st' := [(.int a1), (.int (((c8 20) + a2) - (c8 6))), (.ref 88)]) (h1 := (SH, s)) rfl ?_
      obtain ⟨v28, s27, h26, hJ⟩ := m_b2 hJ
      refine Rn_call srt312 60 rfl rfl rfl ⟨Nat.le_of_ble_eq_true rfl, Nat.le_of_ble_eq_true rfl, rfl, Nat.le_of_ble_eq_true rfl⟩ (k_X12_saysNow (d + 1) h26) (show Rn N xs (d + 6) me312 132 [some (.ref 88), some (.int a1), some (.int a2)] [(.int v28)] (SH, s27) r from ?_)
      refine Rn_sq srt312 61 1 (pc' := 137) (ls' := [some (.ref 88), some (.int a1), some (.int a2)]) (st' := [(.int v28)]) (h1 := (SH, s27)) rfl ?_
      rw [← Option.some.inj hJ] at hC
      have hC : r = (some (.int v28), (SH, s27)) := hC
      subst hC
      exact Rn_ret srt312 63 rfl rfl rfl
theorem k_X12_of {N : Nat} {xs : Nat → Int32} (d : Nat) {s : mG} {a1 : Int32} {a2 : Int32} {τ : (Int32 × mG)} (hJ : F_X12_of a1 a2 s = some τ) : Rn N xs (d + 6) me312 0 [some (.ref 88), some (.int a1), some (.int a2)] [] (SH, s) (some (.int τ.1), (SH, τ.2)) := k_X12_of_r d hJ rfl
/-! IsHeInModel.hook(I)I -/
theorem srt313 : m_srt mc313 = true := by decide +kernel
def F_X12_hook (s : mG) (a1 : Int32) : Option (Int32) :=
  b1 (F_X12_isGuest s a1) fun v2 =>
  if v2 = 0 then
    some (c8 (-2))
  else
    b1 (F_X12_keyOn s a1) fun v5 =>
    some v5
set_option maxRecDepth 4000 in
theorem k_X12_hook_r {N : Nat} {xs : Nat → Int32} (d : Nat) {r : Option Value × mH} {s : mG} {a1 : Int32} {τ : (Int32)} (hJ : F_X12_hook s a1 = some τ) (hC : (fun τ => r = (some (.int τ), (SH, s))) τ) : Rn N xs (d + 2) me313 0 [some (.ref 88), some (.int a1)] [] (SH, s) r := by
  unfold F_X12_hook at hJ
  refine Rn_sq srt313 0 2 (pc' := 2) (ls' := [some (.ref 88), some (.int a1)]) (st' := [(.int a1), (.ref 88)]) (h1 := (SH, s)) rfl ?_
  obtain ⟨v2, h1, hJ⟩ := m_b1 hJ
  refine Rn_call srt313 2 rfl rfl rfl ⟨Nat.le_of_ble_eq_true rfl, Nat.le_of_ble_eq_true rfl, rfl, Nat.le_of_ble_eq_true rfl⟩ (k_X12_isGuest (d) h1) (show Rn N xs (d + 2) me313 5 [some (.ref 88), some (.int a1)] [(.int v2)] (SH, s) r from ?_)
  refine Rn_sq srt313 3 1 (pc' := (if v2 = 0 then 16 else 8)) (ls' := [some (.ref 88), some (.int a1)]) (st' := []) (h1 := (SH, s)) rfl (Rn_if (fun h3 => ?_) (fun h3 => ?_))
  · replace hJ := m_ifp h3 hJ
    refine Rn_sq srt313 8 1 (pc' := 18) (ls' := [some (.ref 88), some (.int a1)]) (st' := [(.int (c8 (-2)))]) (h1 := (SH, s)) rfl ?_
    rw [← Option.some.inj hJ] at hC
    have hC : r = (some (.int (c8 (-2))), (SH, s)) := hC
    subst hC
    exact Rn_ret srt313 9 rfl rfl rfl
  · replace hJ := m_ifn h3 hJ
    refine Rn_sq srt313 4 2 (pc' := 10) (ls' := [some (.ref 88), some (.int a1)]) (st' := [(.int a1), (.ref 88)]) (h1 := (SH, s)) rfl ?_
    obtain ⟨v5, h4, hJ⟩ := m_b1 hJ
    refine Rn_call srt313 6 rfl rfl rfl ⟨Nat.le_of_ble_eq_true rfl, Nat.le_of_ble_eq_true rfl, rfl, Nat.le_of_ble_eq_true rfl⟩ (k_X12_keyOn (d + 1) h4) (show Rn N xs (d + 2) me313 13 [some (.ref 88), some (.int a1)] [(.int v5)] (SH, s) r from ?_)
    refine Rn_sq srt313 7 1 (pc' := 18) (ls' := [some (.ref 88), some (.int a1)]) (st' := [(.int v5)]) (h1 := (SH, s)) rfl ?_
    rw [← Option.some.inj hJ] at hC
    have hC : r = (some (.int v5), (SH, s)) := hC
    subst hC
    exact Rn_ret srt313 9 rfl rfl rfl
theorem k_X12_hook {N : Nat} {xs : Nat → Int32} (d : Nat) {s : mG} {a1 : Int32} {τ : (Int32)} (hJ : F_X12_hook s a1 = some τ) : Rn N xs (d + 2) me313 0 [some (.ref 88), some (.int a1)] [] (SH, s) (some (.int τ), (SH, s)) := k_X12_hook_r d hJ rfl
end
