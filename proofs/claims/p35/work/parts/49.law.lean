noncomputable section
/-! the law -/
theorem srtL : m_srt mcL = true := by decide +kernel
def C_law_18 (N : Nat) (xs : Nat → Int32) (LN : Nat) (Lx : Nat → Int32) (d : Nat) (r : Option Value × mH) (C : (Int32 × mG) → Prop) : ((Int32 × mG) ⊕ (Int32 × mG)) → Prop
  | .inl v => Rn N xs (d + 132) meL 18 [some (.ref 1000000), some (.ref 0), some (.ref 88), some (.int v.1)] [] (SH, v.2) r
  | .inr a => C a
def F_law_1586 (LN : Nat) (Lx : Nat → Int32) (x3 : Int32) (s : mG) : Option ((Int32 × mG) ⊕ (Int32 × mG)) :=
  some (Sum.inl ((x3 + ci 6), s))
set_option maxRecDepth 60000 in
theorem k_law_1586 {N : Nat} {xs : Nat → Int32} (LN : Nat) (Lx : Nat → Int32) (d : Nat) (h_N : N = LN) (h_X : xs = Lx) {r : Option Value × mH} {s : mG} {x3 : Int32} {τ : ((Int32 × mG) ⊕ (Int32 × mG))} (hJ : F_law_1586 LN Lx x3 s = some τ) (hC : (C_law_18 N xs LN Lx d r (fun τ => r = (some (.int τ.1), (SH, τ.2)))) τ) : Rn N xs (d + 132) meL 1586 [some (.ref 1000000), some (.ref 0), some (.ref 88), some (.int x3)] [] (SH, s) r := by
  unfold F_law_1586 at hJ
  refine Rn_sq srtL 1092 2 (pc' := 18) (ls' := [some (.ref 1000000), some (.ref 0), some (.ref 88), some (.int (x3 + ci 6))]) (st' := []) (h1 := (SH, s)) rfl ?_
  rw [← Option.some.inj hJ] at hC
  exact hC
def F_law_232 (LN : Nat) (Lx : Nat → Int32) (x3 : Int32) (s : mG) : Option ((Int32 × mG) ⊕ (Int32 × mG)) :=
  if (x3 + (ci 1)) < 0 ∨ LN ≤ (x3 + (ci 1)).toNatClampNeg then none else
  b2 (F_X11_state (Lx (x3 + (ci 1)).toNatClampNeg) s) fun v7 s6 =>
  if (x3 + (ci 1)) < 0 ∨ LN ≤ (x3 + (ci 1)).toNatClampNeg then none else
  b2 (F_X12_state (Lx (x3 + (ci 1)).toNatClampNeg) s6) fun v11 s10 =>
  F_law_1586 LN Lx x3 s10
set_option maxRecDepth 60000 in
theorem k_law_232 {N : Nat} {xs : Nat → Int32} (LN : Nat) (Lx : Nat → Int32) (d : Nat) (h_N : N = LN) (h_X : xs = Lx) {r : Option Value × mH} {s : mG} {x3 : Int32} {τ : ((Int32 × mG) ⊕ (Int32 × mG))} (hJ : F_law_232 LN Lx x3 s = some τ) (hC : (C_law_18 N xs LN Lx d r (fun τ => r = (some (.int τ.1), (SH, τ.2)))) τ) : Rn N xs (d + 132) meL 232 [some (.ref 1000000), some (.ref 0), some (.ref 88), some (.int x3)] [] (SH, s) r := by
  unfold F_law_232 at hJ
  refine Rn_sq srtL 22 5 (pc' := 237) (ls' := [some (.ref 1000000), some (.ref 0), some (.ref 88), some (.int x3)]) (st' := [(.int (x3 + (ci 1))), (.ref 1000000), (.ref 0)]) (h1 := (SH, s)) rfl ?_
  obtain ⟨h4, hJ⟩ := m_gn hJ
  refine Rn_ev srtL 27 rfl rfl rfl (op_iaL h_N h_X h4) ?_
  obtain ⟨v7, s6, h5, hJ⟩ := m_b2 hJ
  refine Rn_call srtL 28 rfl rfl rfl ⟨Nat.le_of_ble_eq_true rfl, Nat.le_of_ble_eq_true rfl, rfl, Nat.le_of_ble_eq_true rfl⟩ (k_X11_state (d + 130) h5) (show Rn N xs (d + 132) meL 241 [some (.ref 1000000), some (.ref 0), some (.ref 88), some (.int x3)] [(.int v7)] (SH, s6) r from ?_)
  refine Rn_sq srtL 29 6 (pc' := 247) (ls' := [some (.ref 1000000), some (.ref 0), some (.ref 88), some (.int x3)]) (st' := [(.int (x3 + (ci 1))), (.ref 1000000), (.ref 88)]) (h1 := (SH, s6)) rfl ?_
  obtain ⟨h8, hJ⟩ := m_gn hJ
  refine Rn_ev srtL 35 rfl rfl rfl (op_iaL h_N h_X h8) ?_
  obtain ⟨v11, s10, h9, hJ⟩ := m_b2 hJ
  refine Rn_call srtL 36 rfl rfl rfl ⟨Nat.le_of_ble_eq_true rfl, Nat.le_of_ble_eq_true rfl, rfl, Nat.le_of_ble_eq_true rfl⟩ (k_X12_state (d + 130) h9) (show Rn N xs (d + 132) meL 251 [some (.ref 1000000), some (.ref 0), some (.ref 88), some (.int x3)] [(.int v11)] (SH, s10) r from ?_)
  refine Rn_sq srtL 37 2 (pc' := 1586) (ls' := [some (.ref 1000000), some (.ref 0), some (.ref 88), some (.int x3)]) (st' := []) (h1 := (SH, s10)) rfl ?_
  exact (k_law_1586 LN Lx d h_N h_X hJ hC)
def F_law_255 (LN : Nat) (Lx : Nat → Int32) (x3 : Int32) (s : mG) : Option ((Int32 × mG) ⊕ (Int32 × mG)) :=
  if (x3 + (ci 1)) < 0 ∨ LN ≤ (x3 + (ci 1)).toNatClampNeg then none else
  if (x3 + (ci 2)) < 0 ∨ LN ≤ (x3 + (ci 2)).toNatClampNeg then none else
  b2 (F_X11_guest (Lx (x3 + (ci 1)).toNatClampNeg) (Lx (x3 + (ci 2)).toNatClampNeg) s) fun v17 s16 =>
  if (x3 + (ci 1)) < 0 ∨ LN ≤ (x3 + (ci 1)).toNatClampNeg then none else
  if (x3 + (ci 2)) < 0 ∨ LN ≤ (x3 + (ci 2)).toNatClampNeg then none else
  b2 (F_X12_guest (Lx (x3 + (ci 1)).toNatClampNeg) (Lx (x3 + (ci 2)).toNatClampNeg) s16) fun v22 s21 =>
  F_law_1586 LN Lx x3 s21
set_option maxRecDepth 60000 in
theorem k_law_255 {N : Nat} {xs : Nat → Int32} (LN : Nat) (Lx : Nat → Int32) (d : Nat) (h_N : N = LN) (h_X : xs = Lx) {r : Option Value × mH} {s : mG} {x3 : Int32} {τ : ((Int32 × mG) ⊕ (Int32 × mG))} (hJ : F_law_255 LN Lx x3 s = some τ) (hC : (C_law_18 N xs LN Lx d r (fun τ => r = (some (.int τ.1), (SH, τ.2)))) τ) : Rn N xs (d + 132) meL 255 [some (.ref 1000000), some (.ref 0), some (.ref 88), some (.int x3)] [] (SH, s) r := by
  unfold F_law_255 at hJ
  refine Rn_sq srtL 39 5 (pc' := 260) (ls' := [some (.ref 1000000), some (.ref 0), some (.ref 88), some (.int x3)]) (st' := [(.int (x3 + (ci 1))), (.ref 1000000), (.ref 0)]) (h1 := (SH, s)) rfl ?_
  obtain ⟨h13, hJ⟩ := m_gn hJ
  refine Rn_ev srtL 44 rfl rfl rfl (op_iaL h_N h_X h13) ?_
  refine Rn_sq srtL 45 4 (pc' := 265) (ls' := [some (.ref 1000000), some (.ref 0), some (.ref 88), some (.int x3)]) (st' := [(.int (x3 + (ci 2))), (.ref 1000000), (.int (Lx (x3 + (ci 1)).toNatClampNeg)), (.ref 0)]) (h1 := (SH, s)) rfl ?_
  obtain ⟨h14, hJ⟩ := m_gn hJ
  refine Rn_ev srtL 49 rfl rfl rfl (op_iaL h_N h_X h14) ?_
  obtain ⟨v17, s16, h15, hJ⟩ := m_b2 hJ
  refine Rn_call srtL 50 rfl rfl rfl ⟨Nat.le_of_ble_eq_true rfl, Nat.le_of_ble_eq_true rfl, rfl, Nat.le_of_ble_eq_true rfl⟩ (k_X11_guest (d + 128) h15) (show Rn N xs (d + 132) meL 269 [some (.ref 1000000), some (.ref 0), some (.ref 88), some (.int x3)] [(.int v17)] (SH, s16) r from ?_)
  refine Rn_sq srtL 51 6 (pc' := 275) (ls' := [some (.ref 1000000), some (.ref 0), some (.ref 88), some (.int x3)]) (st' := [(.int (x3 + (ci 1))), (.ref 1000000), (.ref 88)]) (h1 := (SH, s16)) rfl ?_
  obtain ⟨h18, hJ⟩ := m_gn hJ
  refine Rn_ev srtL 57 rfl rfl rfl (op_iaL h_N h_X h18) ?_
  refine Rn_sq srtL 58 4 (pc' := 280) (ls' := [some (.ref 1000000), some (.ref 0), some (.ref 88), some (.int x3)]) (st' := [(.int (x3 + (ci 2))), (.ref 1000000), (.int (Lx (x3 + (ci 1)).toNatClampNeg)), (.ref 88)]) (h1 := (SH, s16)) rfl ?_
  obtain ⟨h19, hJ⟩ := m_gn hJ
  refine Rn_ev srtL 62 rfl rfl rfl (op_iaL h_N h_X h19) ?_
  obtain ⟨v22, s21, h20, hJ⟩ := m_b2 hJ
  refine Rn_call srtL 63 rfl rfl rfl ⟨Nat.le_of_ble_eq_true rfl, Nat.le_of_ble_eq_true rfl, rfl, Nat.le_of_ble_eq_true rfl⟩ (k_X12_guest (d + 130) h20) (show Rn N xs (d + 132) meL 284 [some (.ref 1000000), some (.ref 0), some (.ref 88), some (.int x3)] [(.int v22)] (SH, s21) r from ?_)
  refine Rn_sq srtL 64 2 (pc' := 1586) (ls' := [some (.ref 1000000), some (.ref 0), some (.ref 88), some (.int x3)]) (st' := []) (h1 := (SH, s21)) rfl ?_
  exact (k_law_1586 LN Lx d h_N h_X hJ hC)
def F_law_288 (LN : Nat) (Lx : Nat → Int32) (x3 : Int32) (s : mG) : Option ((Int32 × mG) ⊕ (Int32 × mG)) :=
  if (x3 + (ci 1)) < 0 ∨ LN ≤ (x3 + (ci 1)).toNatClampNeg then none else
  if (x3 + (ci 2)) < 0 ∨ LN ≤ (x3 + (ci 2)).toNatClampNeg then none else
  if (x3 + (ci 3)) < 0 ∨ LN ≤ (x3 + (ci 3)).toNatClampNeg then none else
  b2 (F_X11_set (Lx (x3 + (ci 1)).toNatClampNeg) (Lx (x3 + (ci 2)).toNatClampNeg) (Lx (x3 + (ci 3)).toNatClampNeg) s) fun v29 s28 =>
  if (x3 + (ci 1)) < 0 ∨ LN ≤ (x3 + (ci 1)).toNatClampNeg then none else
  if (x3 + (ci 2)) < 0 ∨ LN ≤ (x3 + (ci 2)).toNatClampNeg then none else
  if (x3 + (ci 3)) < 0 ∨ LN ≤ (x3 + (ci 3)).toNatClampNeg then none else
  b2 (F_X12_set (Lx (x3 + (ci 1)).toNatClampNeg) (Lx (x3 + (ci 2)).toNatClampNeg) (Lx (x3 + (ci 3)).toNatClampNeg) s28) fun v35 s34 =>
  F_law_1586 LN Lx x3 s34
set_option maxRecDepth 60000 in
theorem k_law_288 {N : Nat} {xs : Nat → Int32} (LN : Nat) (Lx : Nat → Int32) (d : Nat) (h_N : N = LN) (h_X : xs = Lx) {r : Option Value × mH} {s : mG} {x3 : Int32} {τ : ((Int32 × mG) ⊕ (Int32 × mG))} (hJ : F_law_288 LN Lx x3 s = some τ) (hC : (C_law_18 N xs LN Lx d r (fun τ => r = (some (.int τ.1), (SH, τ.2)))) τ) : Rn N xs (d + 132) meL 288 [some (.ref 1000000), some (.ref 0), some (.ref 88), some (.int x3)] [] (SH, s) r := by
  unfold F_law_288 at hJ
  refine Rn_sq srtL 66 5 (pc' := 293) (ls' := [some (.ref 1000000), some (.ref 0), some (.ref 88), some (.int x3)]) (st' := [(.int (x3 + (ci 1))), (.ref 1000000), (.ref 0)]) (h1 := (SH, s)) rfl ?_
  obtain ⟨h24, hJ⟩ := m_gn hJ
  refine Rn_ev srtL 71 rfl rfl rfl (op_iaL h_N h_X h24) ?_
  refine Rn_sq srtL 72 4 (pc' := 298) (ls' := [some (.ref 1000000), some (.ref 0), some (.ref 88), some (.int x3)]) (st' := [(.int (x3 + (ci 2))), (.ref 1000000), (.int (Lx (x3 + (ci 1)).toNatClampNeg)), (.ref 0)]) (h1 := (SH, s)) rfl ?_
  obtain ⟨h25, hJ⟩ := m_gn hJ
  refine Rn_ev srtL 76 rfl rfl rfl (op_iaL h_N h_X h25) ?_
  refine Rn_sq srtL 77 4 (pc' := 303) (ls' := [some (.ref 1000000), some (.ref 0), some (.ref 88), some (.int x3)]) (st' := [(.int (x3 + (ci 3))), (.ref 1000000), (.int (Lx (x3 + (ci 2)).toNatClampNeg)), (.int (Lx (x3 + (ci 1)).toNatClampNeg)), (.ref 0)]) (h1 := (SH, s)) rfl ?_
  obtain ⟨h26, hJ⟩ := m_gn hJ
  refine Rn_ev srtL 81 rfl rfl rfl (op_iaL h_N h_X h26) ?_
  obtain ⟨v29, s28, h27, hJ⟩ := m_b2 hJ
  refine Rn_call srtL 82 rfl rfl rfl ⟨Nat.le_of_ble_eq_true rfl, Nat.le_of_ble_eq_true rfl, rfl, Nat.le_of_ble_eq_true rfl⟩ (k_X11_set (d + 128) h27) (show Rn N xs (d + 132) meL 307 [some (.ref 1000000), some (.ref 0), some (.ref 88), some (.int x3)] [(.int v29)] (SH, s28) r from ?_)
  refine Rn_sq srtL 83 6 (pc' := 313) (ls' := [some (.ref 1000000), some (.ref 0), some (.ref 88), some (.int x3)]) (st' := [(.int (x3 + (ci 1))), (.ref 1000000), (.ref 88)]) (h1 := (SH, s28)) rfl ?_
  obtain ⟨h30, hJ⟩ := m_gn hJ
  refine Rn_ev srtL 89 rfl rfl rfl (op_iaL h_N h_X h30) ?_
  refine Rn_sq srtL 90 4 (pc' := 318) (ls' := [some (.ref 1000000), some (.ref 0), some (.ref 88), some (.int x3)]) (st' := [(.int (x3 + (ci 2))), (.ref 1000000), (.int (Lx (x3 + (ci 1)).toNatClampNeg)), (.ref 88)]) (h1 := (SH, s28)) rfl ?_
  obtain ⟨h31, hJ⟩ := m_gn hJ
  refine Rn_ev srtL 94 rfl rfl rfl (op_iaL h_N h_X h31) ?_
  refine Rn_sq srtL 95 4 (pc' := 323) (ls' := [some (.ref 1000000), some (.ref 0), some (.ref 88), some (.int x3)]) (st' := [(.int (x3 + (ci 3))), (.ref 1000000), (.int (Lx (x3 + (ci 2)).toNatClampNeg)), (.int (Lx (x3 + (ci 1)).toNatClampNeg)), (.ref 88)]) (h1 := (SH, s28)) rfl ?_
  obtain ⟨h32, hJ⟩ := m_gn hJ
  refine Rn_ev srtL 99 rfl rfl rfl (op_iaL h_N h_X h32) ?_
  obtain ⟨v35, s34, h33, hJ⟩ := m_b2 hJ
  refine Rn_call srtL 100 rfl rfl rfl ⟨Nat.le_of_ble_eq_true rfl, Nat.le_of_ble_eq_true rfl, rfl, Nat.le_of_ble_eq_true rfl⟩ (k_X12_set (d + 129) h33) (show Rn N xs (d + 132) meL 327 [some (.ref 1000000), some (.ref 0), some (.ref 88), some (.int x3)] [(.int v35)] (SH, s34) r from ?_)
  refine Rn_sq srtL 101 2 (pc' := 1586) (ls' := [some (.ref 1000000), some (.ref 0), some (.ref 88), some (.int x3)]) (st' := []) (h1 := (SH, s34)) rfl ?_
  exact (k_law_1586 LN Lx d h_N h_X hJ hC)
def F_law_331 (LN : Nat) (Lx : Nat → Int32) (x3 : Int32) (s : mG) : Option ((Int32 × mG) ⊕ (Int32 × mG)) :=
  if (x3 + (ci 1)) < 0 ∨ LN ≤ (x3 + (ci 1)).toNatClampNeg then none else
  if (x3 + (ci 2)) < 0 ∨ LN ≤ (x3 + (ci 2)).toNatClampNeg then none else
  b2 (F_X11_hang (Lx (x3 + (ci 1)).toNatClampNeg) (Lx (x3 + (ci 2)).toNatClampNeg) s) fun v41 s40 =>
  if (x3 + (ci 1)) < 0 ∨ LN ≤ (x3 + (ci 1)).toNatClampNeg then none else
  if (x3 + (ci 2)) < 0 ∨ LN ≤ (x3 + (ci 2)).toNatClampNeg then none else
  b2 (F_X12_hang (Lx (x3 + (ci 1)).toNatClampNeg) (Lx (x3 + (ci 2)).toNatClampNeg) s40) fun v46 s45 =>
  F_law_1586 LN Lx x3 s45
set_option maxRecDepth 60000 in
theorem k_law_331 {N : Nat} {xs : Nat → Int32} (LN : Nat) (Lx : Nat → Int32) (d : Nat) (h_N : N = LN) (h_X : xs = Lx) {r : Option Value × mH} {s : mG} {x3 : Int32} {τ : ((Int32 × mG) ⊕ (Int32 × mG))} (hJ : F_law_331 LN Lx x3 s = some τ) (hC : (C_law_18 N xs LN Lx d r (fun τ => r = (some (.int τ.1), (SH, τ.2)))) τ) : Rn N xs (d + 132) meL 331 [some (.ref 1000000), some (.ref 0), some (.ref 88), some (.int x3)] [] (SH, s) r := by
  unfold F_law_331 at hJ
  refine Rn_sq srtL 103 5 (pc' := 336) (ls' := [some (.ref 1000000), some (.ref 0), some (.ref 88), some (.int x3)]) (st' := [(.int (x3 + (ci 1))), (.ref 1000000), (.ref 0)]) (h1 := (SH, s)) rfl ?_
  obtain ⟨h37, hJ⟩ := m_gn hJ
  refine Rn_ev srtL 108 rfl rfl rfl (op_iaL h_N h_X h37) ?_
  refine Rn_sq srtL 109 4 (pc' := 341) (ls' := [some (.ref 1000000), some (.ref 0), some (.ref 88), some (.int x3)]) (st' := [(.int (x3 + (ci 2))), (.ref 1000000), (.int (Lx (x3 + (ci 1)).toNatClampNeg)), (.ref 0)]) (h1 := (SH, s)) rfl ?_
  obtain ⟨h38, hJ⟩ := m_gn hJ
  refine Rn_ev srtL 113 rfl rfl rfl (op_iaL h_N h_X h38) ?_
  obtain ⟨v41, s40, h39, hJ⟩ := m_b2 hJ
  refine Rn_call srtL 114 rfl rfl rfl ⟨Nat.le_of_ble_eq_true rfl, Nat.le_of_ble_eq_true rfl, rfl, Nat.le_of_ble_eq_true rfl⟩ (k_X11_hang (d + 128) h39) (show Rn N xs (d + 132) meL 345 [some (.ref 1000000), some (.ref 0), some (.ref 88), some (.int x3)] [(.int v41)] (SH, s40) r from ?_)
  refine Rn_sq srtL 115 6 (pc' := 351) (ls' := [some (.ref 1000000), some (.ref 0), some (.ref 88), some (.int x3)]) (st' := [(.int (x3 + (ci 1))), (.ref 1000000), (.ref 88)]) (h1 := (SH, s40)) rfl ?_
  obtain ⟨h42, hJ⟩ := m_gn hJ
  refine Rn_ev srtL 121 rfl rfl rfl (op_iaL h_N h_X h42) ?_
  refine Rn_sq srtL 122 4 (pc' := 356) (ls' := [some (.ref 1000000), some (.ref 0), some (.ref 88), some (.int x3)]) (st' := [(.int (x3 + (ci 2))), (.ref 1000000), (.int (Lx (x3 + (ci 1)).toNatClampNeg)), (.ref 88)]) (h1 := (SH, s40)) rfl ?_
  obtain ⟨h43, hJ⟩ := m_gn hJ
  refine Rn_ev srtL 126 rfl rfl rfl (op_iaL h_N h_X h43) ?_
  obtain ⟨v46, s45, h44, hJ⟩ := m_b2 hJ
  refine Rn_call srtL 127 rfl rfl rfl ⟨Nat.le_of_ble_eq_true rfl, Nat.le_of_ble_eq_true rfl, rfl, Nat.le_of_ble_eq_true rfl⟩ (k_X12_hang (d + 129) h44) (show Rn N xs (d + 132) meL 360 [some (.ref 1000000), some (.ref 0), some (.ref 88), some (.int x3)] [(.int v46)] (SH, s45) r from ?_)
  refine Rn_sq srtL 128 2 (pc' := 1586) (ls' := [some (.ref 1000000), some (.ref 0), some (.ref 88), some (.int x3)]) (st' := []) (h1 := (SH, s45)) rfl ?_
  exact (k_law_1586 LN Lx d h_N h_X hJ hC)
def F_law_364 (LN : Nat) (Lx : Nat → Int32) (x3 : Int32) (s : mG) : Option ((Int32 × mG) ⊕ (Int32 × mG)) :=
  if (x3 + (ci 1)) < 0 ∨ LN ≤ (x3 + (ci 1)).toNatClampNeg then none else
  if (x3 + (ci 2)) < 0 ∨ LN ≤ (x3 + (ci 2)).toNatClampNeg then none else
  if (x3 + (ci 3)) < 0 ∨ LN ≤ (x3 + (ci 3)).toNatClampNeg then none else
  b2 (F_X11_looks (Lx (x3 + (ci 1)).toNatClampNeg) (Lx (x3 + (ci 2)).toNatClampNeg) (Lx (x3 + (ci 3)).toNatClampNeg) s) fun v53 s52 =>
  if (x3 + (ci 1)) < 0 ∨ LN ≤ (x3 + (ci 1)).toNatClampNeg then none else
  if (x3 + (ci 2)) < 0 ∨ LN ≤ (x3 + (ci 2)).toNatClampNeg then none else
  if (x3 + (ci 3)) < 0 ∨ LN ≤ (x3 + (ci 3)).toNatClampNeg then none else
  b2 (F_X12_looks (Lx (x3 + (ci 1)).toNatClampNeg) (Lx (x3 + (ci 2)).toNatClampNeg) (Lx (x3 + (ci 3)).toNatClampNeg) s52) fun v59 s58 =>
  F_law_1586 LN Lx x3 s58
set_option maxRecDepth 60000 in
theorem k_law_364 {N : Nat} {xs : Nat → Int32} (LN : Nat) (Lx : Nat → Int32) (d : Nat) (h_N : N = LN) (h_X : xs = Lx) {r : Option Value × mH} {s : mG} {x3 : Int32} {τ : ((Int32 × mG) ⊕ (Int32 × mG))} (hJ : F_law_364 LN Lx x3 s = some τ) (hC : (C_law_18 N xs LN Lx d r (fun τ => r = (some (.int τ.1), (SH, τ.2)))) τ) : Rn N xs (d + 132) meL 364 [some (.ref 1000000), some (.ref 0), some (.ref 88), some (.int x3)] [] (SH, s) r := by
  unfold F_law_364 at hJ
  refine Rn_sq srtL 130 5 (pc' := 369) (ls' := [some (.ref 1000000), some (.ref 0), some (.ref 88), some (.int x3)]) (st' := [(.int (x3 + (ci 1))), (.ref 1000000), (.ref 0)]) (h1 := (SH, s)) rfl ?_
  obtain ⟨h48, hJ⟩ := m_gn hJ
  refine Rn_ev srtL 135 rfl rfl rfl (op_iaL h_N h_X h48) ?_
  refine Rn_sq srtL 136 4 (pc' := 374) (ls' := [some (.ref 1000000), some (.ref 0), some (.ref 88), some (.int x3)]) (st' := [(.int (x3 + (ci 2))), (.ref 1000000), (.int (Lx (x3 + (ci 1)).toNatClampNeg)), (.ref 0)]) (h1 := (SH, s)) rfl ?_
  obtain ⟨h49, hJ⟩ := m_gn hJ
  refine Rn_ev srtL 140 rfl rfl rfl (op_iaL h_N h_X h49) ?_
  refine Rn_sq srtL 141 4 (pc' := 379) (ls' := [some (.ref 1000000), some (.ref 0), some (.ref 88), some (.int x3)]) (st' := [(.int (x3 + (ci 3))), (.ref 1000000), (.int (Lx (x3 + (ci 2)).toNatClampNeg)), (.int (Lx (x3 + (ci 1)).toNatClampNeg)), (.ref 0)]) (h1 := (SH, s)) rfl ?_
  obtain ⟨h50, hJ⟩ := m_gn hJ
  refine Rn_ev srtL 145 rfl rfl rfl (op_iaL h_N h_X h50) ?_
  obtain ⟨v53, s52, h51, hJ⟩ := m_b2 hJ
  refine Rn_call srtL 146 rfl rfl rfl ⟨Nat.le_of_ble_eq_true rfl, Nat.le_of_ble_eq_true rfl, rfl, Nat.le_of_ble_eq_true rfl⟩ (k_X11_looks (d + 128) h51) (show Rn N xs (d + 132) meL 383 [some (.ref 1000000), some (.ref 0), some (.ref 88), some (.int x3)] [(.int v53)] (SH, s52) r from ?_)
  refine Rn_sq srtL 147 6 (pc' := 389) (ls' := [some (.ref 1000000), some (.ref 0), some (.ref 88), some (.int x3)]) (st' := [(.int (x3 + (ci 1))), (.ref 1000000), (.ref 88)]) (h1 := (SH, s52)) rfl ?_
  obtain ⟨h54, hJ⟩ := m_gn hJ
  refine Rn_ev srtL 153 rfl rfl rfl (op_iaL h_N h_X h54) ?_
  refine Rn_sq srtL 154 4 (pc' := 394) (ls' := [some (.ref 1000000), some (.ref 0), some (.ref 88), some (.int x3)]) (st' := [(.int (x3 + (ci 2))), (.ref 1000000), (.int (Lx (x3 + (ci 1)).toNatClampNeg)), (.ref 88)]) (h1 := (SH, s52)) rfl ?_
  obtain ⟨h55, hJ⟩ := m_gn hJ
  refine Rn_ev srtL 158 rfl rfl rfl (op_iaL h_N h_X h55) ?_
  refine Rn_sq srtL 159 4 (pc' := 399) (ls' := [some (.ref 1000000), some (.ref 0), some (.ref 88), some (.int x3)]) (st' := [(.int (x3 + (ci 3))), (.ref 1000000), (.int (Lx (x3 + (ci 2)).toNatClampNeg)), (.int (Lx (x3 + (ci 1)).toNatClampNeg)), (.ref 88)]) (h1 := (SH, s52)) rfl ?_
  obtain ⟨h56, hJ⟩ := m_gn hJ
  refine Rn_ev srtL 163 rfl rfl rfl (op_iaL h_N h_X h56) ?_
  obtain ⟨v59, s58, h57, hJ⟩ := m_b2 hJ
  refine Rn_call srtL 164 rfl rfl rfl ⟨Nat.le_of_ble_eq_true rfl, Nat.le_of_ble_eq_true rfl, rfl, Nat.le_of_ble_eq_true rfl⟩ (k_X12_looks (d + 129) h57) (show Rn N xs (d + 132) meL 403 [some (.ref 1000000), some (.ref 0), some (.ref 88), some (.int x3)] [(.int v59)] (SH, s58) r from ?_)
  refine Rn_sq srtL 165 2 (pc' := 1586) (ls' := [some (.ref 1000000), some (.ref 0), some (.ref 88), some (.int x3)]) (st' := []) (h1 := (SH, s58)) rfl ?_
  exact (k_law_1586 LN Lx d h_N h_X hJ hC)
def F_law_407 (LN : Nat) (Lx : Nat → Int32) (x3 : Int32) (s : mG) : Option ((Int32 × mG) ⊕ (Int32 × mG)) :=
  if (x3 + (ci 1)) < 0 ∨ LN ≤ (x3 + (ci 1)).toNatClampNeg then none else
  b2 (F_X11_hours (Lx (x3 + (ci 1)).toNatClampNeg) s) fun v64 s63 =>
  if (x3 + (ci 1)) < 0 ∨ LN ≤ (x3 + (ci 1)).toNatClampNeg then none else
  b2 (F_X12_hours (Lx (x3 + (ci 1)).toNatClampNeg) s63) fun v68 s67 =>
  F_law_1586 LN Lx x3 s67
set_option maxRecDepth 60000 in
theorem k_law_407 {N : Nat} {xs : Nat → Int32} (LN : Nat) (Lx : Nat → Int32) (d : Nat) (h_N : N = LN) (h_X : xs = Lx) {r : Option Value × mH} {s : mG} {x3 : Int32} {τ : ((Int32 × mG) ⊕ (Int32 × mG))} (hJ : F_law_407 LN Lx x3 s = some τ) (hC : (C_law_18 N xs LN Lx d r (fun τ => r = (some (.int τ.1), (SH, τ.2)))) τ) : Rn N xs (d + 132) meL 407 [some (.ref 1000000), some (.ref 0), some (.ref 88), some (.int x3)] [] (SH, s) r := by
  unfold F_law_407 at hJ
  refine Rn_sq srtL 167 5 (pc' := 412) (ls' := [some (.ref 1000000), some (.ref 0), some (.ref 88), some (.int x3)]) (st' := [(.int (x3 + (ci 1))), (.ref 1000000), (.ref 0)]) (h1 := (SH, s)) rfl ?_
  obtain ⟨h61, hJ⟩ := m_gn hJ
  refine Rn_ev srtL 172 rfl rfl rfl (op_iaL h_N h_X h61) ?_
  obtain ⟨v64, s63, h62, hJ⟩ := m_b2 hJ
  refine Rn_call srtL 173 rfl rfl rfl ⟨Nat.le_of_ble_eq_true rfl, Nat.le_of_ble_eq_true rfl, rfl, Nat.le_of_ble_eq_true rfl⟩ (k_X11_hours (d + 125) h62) (show Rn N xs (d + 132) meL 416 [some (.ref 1000000), some (.ref 0), some (.ref 88), some (.int x3)] [(.int v64)] (SH, s63) r from ?_)
  refine Rn_sq srtL 174 6 (pc' := 422) (ls' := [some (.ref 1000000), some (.ref 0), some (.ref 88), some (.int x3)]) (st' := [(.int (x3 + (ci 1))), (.ref 1000000), (.ref 88)]) (h1 := (SH, s63)) rfl ?_
  obtain ⟨h65, hJ⟩ := m_gn hJ
  refine Rn_ev srtL 180 rfl rfl rfl (op_iaL h_N h_X h65) ?_
  obtain ⟨v68, s67, h66, hJ⟩ := m_b2 hJ
  refine Rn_call srtL 181 rfl rfl rfl ⟨Nat.le_of_ble_eq_true rfl, Nat.le_of_ble_eq_true rfl, rfl, Nat.le_of_ble_eq_true rfl⟩ (k_X12_hours (d + 124) h66) (show Rn N xs (d + 132) meL 426 [some (.ref 1000000), some (.ref 0), some (.ref 88), some (.int x3)] [(.int v68)] (SH, s67) r from ?_)
  refine Rn_sq srtL 182 2 (pc' := 1586) (ls' := [some (.ref 1000000), some (.ref 0), some (.ref 88), some (.int x3)]) (st' := []) (h1 := (SH, s67)) rfl ?_
  exact (k_law_1586 LN Lx d h_N h_X hJ hC)
def F_law_430 (LN : Nat) (Lx : Nat → Int32) (x3 : Int32) (s : mG) : Option ((Int32 × mG) ⊕ (Int32 × mG)) :=
  if (x3 + (ci 1)) < 0 ∨ LN ≤ (x3 + (ci 1)).toNatClampNeg then none else
  if (x3 + (ci 2)) < 0 ∨ LN ≤ (x3 + (ci 2)).toNatClampNeg then none else
  if (x3 + (ci 3)) < 0 ∨ LN ≤ (x3 + (ci 3)).toNatClampNeg then none else
  if (x3 + (ci 4)) < 0 ∨ LN ≤ (x3 + (ci 4)).toNatClampNeg then none else
  if (x3 + (ci 5)) < 0 ∨ LN ≤ (x3 + (ci 5)).toNatClampNeg then none else
  b2 (F_X11_feed (Lx (x3 + (ci 1)).toNatClampNeg) (Lx (x3 + (ci 2)).toNatClampNeg) (Lx (x3 + (ci 3)).toNatClampNeg) (Lx (x3 + (ci 4)).toNatClampNeg) (Lx (x3 + (ci 5)).toNatClampNeg) s) fun v77 s76 =>
  if (x3 + (ci 1)) < 0 ∨ LN ≤ (x3 + (ci 1)).toNatClampNeg then none else
  if (x3 + (ci 2)) < 0 ∨ LN ≤ (x3 + (ci 2)).toNatClampNeg then none else
  if (x3 + (ci 3)) < 0 ∨ LN ≤ (x3 + (ci 3)).toNatClampNeg then none else
  if (x3 + (ci 4)) < 0 ∨ LN ≤ (x3 + (ci 4)).toNatClampNeg then none else
  if (x3 + (ci 5)) < 0 ∨ LN ≤ (x3 + (ci 5)).toNatClampNeg then none else
  b2 (F_X12_feed (Lx (x3 + (ci 1)).toNatClampNeg) (Lx (x3 + (ci 2)).toNatClampNeg) (Lx (x3 + (ci 3)).toNatClampNeg) (Lx (x3 + (ci 4)).toNatClampNeg) (Lx (x3 + (ci 5)).toNatClampNeg) s76) fun v85 s84 =>
  F_law_1586 LN Lx x3 s84
set_option maxRecDepth 60000 in
theorem k_law_430 {N : Nat} {xs : Nat → Int32} (LN : Nat) (Lx : Nat → Int32) (d : Nat) (h_N : N = LN) (h_X : xs = Lx) {r : Option Value × mH} {s : mG} {x3 : Int32} {τ : ((Int32 × mG) ⊕ (Int32 × mG))} (hJ : F_law_430 LN Lx x3 s = some τ) (hC : (C_law_18 N xs LN Lx d r (fun τ => r = (some (.int τ.1), (SH, τ.2)))) τ) : Rn N xs (d + 132) meL 430 [some (.ref 1000000), some (.ref 0), some (.ref 88), some (.int x3)] [] (SH, s) r := by
  unfold F_law_430 at hJ
  refine Rn_sq srtL 184 5 (pc' := 435) (ls' := [some (.ref 1000000), some (.ref 0), some (.ref 88), some (.int x3)]) (st' := [(.int (x3 + (ci 1))), (.ref 1000000), (.ref 0)]) (h1 := (SH, s)) rfl ?_
  obtain ⟨h70, hJ⟩ := m_gn hJ
  refine Rn_ev srtL 189 rfl rfl rfl (op_iaL h_N h_X h70) ?_
  refine Rn_sq srtL 190 4 (pc' := 440) (ls' := [some (.ref 1000000), some (.ref 0), some (.ref 88), some (.int x3)]) (st' := [(.int (x3 + (ci 2))), (.ref 1000000), (.int (Lx (x3 + (ci 1)).toNatClampNeg)), (.ref 0)]) (h1 := (SH, s)) rfl ?_
  obtain ⟨h71, hJ⟩ := m_gn hJ
  refine Rn_ev srtL 194 rfl rfl rfl (op_iaL h_N h_X h71) ?_
  refine Rn_sq srtL 195 4 (pc' := 445) (ls' := [some (.ref 1000000), some (.ref 0), some (.ref 88), some (.int x3)]) (st' := [(.int (x3 + (ci 3))), (.ref 1000000), (.int (Lx (x3 + (ci 2)).toNatClampNeg)), (.int (Lx (x3 + (ci 1)).toNatClampNeg)), (.ref 0)]) (h1 := (SH, s)) rfl ?_
  obtain ⟨h72, hJ⟩ := m_gn hJ
  refine Rn_ev srtL 199 rfl rfl rfl (op_iaL h_N h_X h72) ?_
  refine Rn_sq srtL 200 4 (pc' := 450) (ls' := [some (.ref 1000000), some (.ref 0), some (.ref 88), some (.int x3)]) (st' := [(.int (x3 + (ci 4))), (.ref 1000000), (.int (Lx (x3 + (ci 3)).toNatClampNeg)), (.int (Lx (x3 + (ci 2)).toNatClampNeg)), (.int (Lx (x3 + (ci 1)).toNatClampNeg)), (.ref 0)]) (h1 := (SH, s)) rfl ?_
  obtain ⟨h73, hJ⟩ := m_gn hJ
  refine Rn_ev srtL 204 rfl rfl rfl (op_iaL h_N h_X h73) ?_
  refine Rn_sq srtL 205 4 (pc' := 455) (ls' := [some (.ref 1000000), some (.ref 0), some (.ref 88), some (.int x3)]) (st' := [(.int (x3 + (ci 5))), (.ref 1000000), (.int (Lx (x3 + (ci 4)).toNatClampNeg)), (.int (Lx (x3 + (ci 3)).toNatClampNeg)), (.int (Lx (x3 + (ci 2)).toNatClampNeg)), (.int (Lx (x3 + (ci 1)).toNatClampNeg)), (.ref 0)]) (h1 := (SH, s)) rfl ?_
  obtain ⟨h74, hJ⟩ := m_gn hJ
  refine Rn_ev srtL 209 rfl rfl rfl (op_iaL h_N h_X h74) ?_
  obtain ⟨v77, s76, h75, hJ⟩ := m_b2 hJ
  refine Rn_call srtL 210 rfl rfl rfl ⟨Nat.le_of_ble_eq_true rfl, Nat.le_of_ble_eq_true rfl, rfl, Nat.le_of_ble_eq_true rfl⟩ (k_X11_feed (d + 129) h75) (show Rn N xs (d + 132) meL 459 [some (.ref 1000000), some (.ref 0), some (.ref 88), some (.int x3)] [(.int v77)] (SH, s76) r from ?_)
  refine Rn_sq srtL 211 6 (pc' := 465) (ls' := [some (.ref 1000000), some (.ref 0), some (.ref 88), some (.int x3)]) (st' := [(.int (x3 + (ci 1))), (.ref 1000000), (.ref 88)]) (h1 := (SH, s76)) rfl ?_
  obtain ⟨h78, hJ⟩ := m_gn hJ
  refine Rn_ev srtL 217 rfl rfl rfl (op_iaL h_N h_X h78) ?_
  refine Rn_sq srtL 218 4 (pc' := 470) (ls' := [some (.ref 1000000), some (.ref 0), some (.ref 88), some (.int x3)]) (st' := [(.int (x3 + (ci 2))), (.ref 1000000), (.int (Lx (x3 + (ci 1)).toNatClampNeg)), (.ref 88)]) (h1 := (SH, s76)) rfl ?_
  obtain ⟨h79, hJ⟩ := m_gn hJ
  refine Rn_ev srtL 222 rfl rfl rfl (op_iaL h_N h_X h79) ?_
  refine Rn_sq srtL 223 4 (pc' := 475) (ls' := [some (.ref 1000000), some (.ref 0), some (.ref 88), some (.int x3)]) (st' := [(.int (x3 + (ci 3))), (.ref 1000000), (.int (Lx (x3 + (ci 2)).toNatClampNeg)), (.int (Lx (x3 + (ci 1)).toNatClampNeg)), (.ref 88)]) (h1 := (SH, s76)) rfl ?_
  obtain ⟨h80, hJ⟩ := m_gn hJ
  refine Rn_ev srtL 227 rfl rfl rfl (op_iaL h_N h_X h80) ?_
  refine Rn_sq srtL 228 4 (pc' := 480) (ls' := [some (.ref 1000000), some (.ref 0), some (.ref 88), some (.int x3)]) (st' := [(.int (x3 + (ci 4))), (.ref 1000000), (.int (Lx (x3 + (ci 3)).toNatClampNeg)), (.int (Lx (x3 + (ci 2)).toNatClampNeg)), (.int (Lx (x3 + (ci 1)).toNatClampNeg)), (.ref 88)]) (h1 := (SH, s76)) rfl ?_
  obtain ⟨h81, hJ⟩ := m_gn hJ
  refine Rn_ev srtL 232 rfl rfl rfl (op_iaL h_N h_X h81) ?_
  refine Rn_sq srtL 233 4 (pc' := 485) (ls' := [some (.ref 1000000), some (.ref 0), some (.ref 88), some (.int x3)]) (st' := [(.int (x3 + (ci 5))), (.ref 1000000), (.int (Lx (x3 + (ci 4)).toNatClampNeg)), (.int (Lx (x3 + (ci 3)).toNatClampNeg)), (.int (Lx (x3 + (ci 2)).toNatClampNeg)), (.int (Lx (x3 + (ci 1)).toNatClampNeg)), (.ref 88)]) (h1 := (SH, s76)) rfl ?_
  obtain ⟨h82, hJ⟩ := m_gn hJ
  refine Rn_ev srtL 237 rfl rfl rfl (op_iaL h_N h_X h82) ?_
  obtain ⟨v85, s84, h83, hJ⟩ := m_b2 hJ
  refine Rn_call srtL 238 rfl rfl rfl ⟨Nat.le_of_ble_eq_true rfl, Nat.le_of_ble_eq_true rfl, rfl, Nat.le_of_ble_eq_true rfl⟩ (k_X12_feed (d + 131) h83) (show Rn N xs (d + 132) meL 489 [some (.ref 1000000), some (.ref 0), some (.ref 88), some (.int x3)] [(.int v85)] (SH, s84) r from ?_)
  refine Rn_sq srtL 239 2 (pc' := 1586) (ls' := [some (.ref 1000000), some (.ref 0), some (.ref 88), some (.int x3)]) (st' := []) (h1 := (SH, s84)) rfl ?_
  exact (k_law_1586 LN Lx d h_N h_X hJ hC)
def F_law_493 (LN : Nat) (Lx : Nat → Int32) (x3 : Int32) (s : mG) : Option ((Int32 × mG) ⊕ (Int32 × mG)) :=
  if (x3 + (ci 1)) < 0 ∨ LN ≤ (x3 + (ci 1)).toNatClampNeg then none else
  b2 (F_X11_end (Lx (x3 + (ci 1)).toNatClampNeg) s) fun v90 s89 =>
  if (x3 + (ci 1)) < 0 ∨ LN ≤ (x3 + (ci 1)).toNatClampNeg then none else
  b2 (F_X12_end (Lx (x3 + (ci 1)).toNatClampNeg) s89) fun v94 s93 =>
  F_law_1586 LN Lx x3 s93
set_option maxRecDepth 60000 in
theorem k_law_493 {N : Nat} {xs : Nat → Int32} (LN : Nat) (Lx : Nat → Int32) (d : Nat) (h_N : N = LN) (h_X : xs = Lx) {r : Option Value × mH} {s : mG} {x3 : Int32} {τ : ((Int32 × mG) ⊕ (Int32 × mG))} (hJ : F_law_493 LN Lx x3 s = some τ) (hC : (C_law_18 N xs LN Lx d r (fun τ => r = (some (.int τ.1), (SH, τ.2)))) τ) : Rn N xs (d + 132) meL 493 [some (.ref 1000000), some (.ref 0), some (.ref 88), some (.int x3)] [] (SH, s) r := by
  unfold F_law_493 at hJ
  refine Rn_sq srtL 241 5 (pc' := 498) (ls' := [some (.ref 1000000), some (.ref 0), some (.ref 88), some (.int x3)]) (st' := [(.int (x3 + (ci 1))), (.ref 1000000), (.ref 0)]) (h1 := (SH, s)) rfl ?_
  obtain ⟨h87, hJ⟩ := m_gn hJ
  refine Rn_ev srtL 246 rfl rfl rfl (op_iaL h_N h_X h87) ?_
  obtain ⟨v90, s89, h88, hJ⟩ := m_b2 hJ
  refine Rn_call srtL 247 rfl rfl rfl ⟨Nat.le_of_ble_eq_true rfl, Nat.le_of_ble_eq_true rfl, rfl, Nat.le_of_ble_eq_true rfl⟩ (k_X11_end (d + 130) h88) (show Rn N xs (d + 132) meL 502 [some (.ref 1000000), some (.ref 0), some (.ref 88), some (.int x3)] [(.int v90)] (SH, s89) r from ?_)
  refine Rn_sq srtL 248 6 (pc' := 508) (ls' := [some (.ref 1000000), some (.ref 0), some (.ref 88), some (.int x3)]) (st' := [(.int (x3 + (ci 1))), (.ref 1000000), (.ref 88)]) (h1 := (SH, s89)) rfl ?_
  obtain ⟨h91, hJ⟩ := m_gn hJ
  refine Rn_ev srtL 254 rfl rfl rfl (op_iaL h_N h_X h91) ?_
  obtain ⟨v94, s93, h92, hJ⟩ := m_b2 hJ
  refine Rn_call srtL 255 rfl rfl rfl ⟨Nat.le_of_ble_eq_true rfl, Nat.le_of_ble_eq_true rfl, rfl, Nat.le_of_ble_eq_true rfl⟩ (k_X12_end (d + 130) h92) (show Rn N xs (d + 132) meL 512 [some (.ref 1000000), some (.ref 0), some (.ref 88), some (.int x3)] [(.int v94)] (SH, s93) r from ?_)
  refine Rn_sq srtL 256 2 (pc' := 1586) (ls' := [some (.ref 1000000), some (.ref 0), some (.ref 88), some (.int x3)]) (st' := []) (h1 := (SH, s93)) rfl ?_
  exact (k_law_1586 LN Lx d h_N h_X hJ hC)
def F_law_516 (LN : Nat) (Lx : Nat → Int32) (x3 : Int32) (s : mG) : Option ((Int32 × mG) ⊕ (Int32 × mG)) :=
  if (x3 + (ci 1)) < 0 ∨ LN ≤ (x3 + (ci 1)).toNatClampNeg then none else
  b2 (F_X11_text (Lx (x3 + (ci 1)).toNatClampNeg) s) fun v99 s98 =>
  if (x3 + (ci 1)) < 0 ∨ LN ≤ (x3 + (ci 1)).toNatClampNeg then none else
  b2 (F_X12_text (Lx (x3 + (ci 1)).toNatClampNeg) s98) fun v103 s102 =>
  F_law_1586 LN Lx x3 s102
set_option maxRecDepth 60000 in
theorem k_law_516 {N : Nat} {xs : Nat → Int32} (LN : Nat) (Lx : Nat → Int32) (d : Nat) (h_N : N = LN) (h_X : xs = Lx) {r : Option Value × mH} {s : mG} {x3 : Int32} {τ : ((Int32 × mG) ⊕ (Int32 × mG))} (hJ : F_law_516 LN Lx x3 s = some τ) (hC : (C_law_18 N xs LN Lx d r (fun τ => r = (some (.int τ.1), (SH, τ.2)))) τ) : Rn N xs (d + 132) meL 516 [some (.ref 1000000), some (.ref 0), some (.ref 88), some (.int x3)] [] (SH, s) r := by
  unfold F_law_516 at hJ
  refine Rn_sq srtL 258 5 (pc' := 521) (ls' := [some (.ref 1000000), some (.ref 0), some (.ref 88), some (.int x3)]) (st' := [(.int (x3 + (ci 1))), (.ref 1000000), (.ref 0)]) (h1 := (SH, s)) rfl ?_
  obtain ⟨h96, hJ⟩ := m_gn hJ
  refine Rn_ev srtL 263 rfl rfl rfl (op_iaL h_N h_X h96) ?_
  obtain ⟨v99, s98, h97, hJ⟩ := m_b2 hJ
  refine Rn_call srtL 264 rfl rfl rfl ⟨Nat.le_of_ble_eq_true rfl, Nat.le_of_ble_eq_true rfl, rfl, Nat.le_of_ble_eq_true rfl⟩ (k_X11_text (d + 122) h97) (show Rn N xs (d + 132) meL 525 [some (.ref 1000000), some (.ref 0), some (.ref 88), some (.int x3)] [(.int v99)] (SH, s98) r from ?_)
  refine Rn_sq srtL 265 6 (pc' := 531) (ls' := [some (.ref 1000000), some (.ref 0), some (.ref 88), some (.int x3)]) (st' := [(.int (x3 + (ci 1))), (.ref 1000000), (.ref 88)]) (h1 := (SH, s98)) rfl ?_
  obtain ⟨h100, hJ⟩ := m_gn hJ
  refine Rn_ev srtL 271 rfl rfl rfl (op_iaL h_N h_X h100) ?_
  obtain ⟨v103, s102, h101, hJ⟩ := m_b2 hJ
  refine Rn_call srtL 272 rfl rfl rfl ⟨Nat.le_of_ble_eq_true rfl, Nat.le_of_ble_eq_true rfl, rfl, Nat.le_of_ble_eq_true rfl⟩ (k_X12_text (d) h101) (show Rn N xs (d + 132) meL 535 [some (.ref 1000000), some (.ref 0), some (.ref 88), some (.int x3)] [(.int v103)] (SH, s102) r from ?_)
  refine Rn_sq srtL 273 2 (pc' := 1586) (ls' := [some (.ref 1000000), some (.ref 0), some (.ref 88), some (.int x3)]) (st' := []) (h1 := (SH, s102)) rfl ?_
  exact (k_law_1586 LN Lx d h_N h_X hJ hC)
def F_law_539 (LN : Nat) (Lx : Nat → Int32) (x3 : Int32) (s : mG) : Option ((Int32 × mG) ⊕ (Int32 × mG)) :=
  if (x3 + (ci 1)) < 0 ∨ LN ≤ (x3 + (ci 1)).toNatClampNeg then none else
  b1 (F_X11_fault s (Lx (x3 + (ci 1)).toNatClampNeg)) fun v107 =>
  if (x3 + (ci 1)) < 0 ∨ LN ≤ (x3 + (ci 1)).toNatClampNeg then none else
  b1 (F_X12_fault s (Lx (x3 + (ci 1)).toNatClampNeg)) fun v110 =>
  F_law_1586 LN Lx x3 s
set_option maxRecDepth 60000 in
theorem k_law_539 {N : Nat} {xs : Nat → Int32} (LN : Nat) (Lx : Nat → Int32) (d : Nat) (h_N : N = LN) (h_X : xs = Lx) {r : Option Value × mH} {s : mG} {x3 : Int32} {τ : ((Int32 × mG) ⊕ (Int32 × mG))} (hJ : F_law_539 LN Lx x3 s = some τ) (hC : (C_law_18 N xs LN Lx d r (fun τ => r = (some (.int τ.1), (SH, τ.2)))) τ) : Rn N xs (d + 132) meL 539 [some (.ref 1000000), some (.ref 0), some (.ref 88), some (.int x3)] [] (SH, s) r := by
  unfold F_law_539 at hJ
  refine Rn_sq srtL 275 5 (pc' := 544) (ls' := [some (.ref 1000000), some (.ref 0), some (.ref 88), some (.int x3)]) (st' := [(.int (x3 + (ci 1))), (.ref 1000000), (.ref 0)]) (h1 := (SH, s)) rfl ?_
  obtain ⟨h105, hJ⟩ := m_gn hJ
  refine Rn_ev srtL 280 rfl rfl rfl (op_iaL h_N h_X h105) ?_
  obtain ⟨v107, h106, hJ⟩ := m_b1 hJ
  refine Rn_call srtL 281 rfl rfl rfl ⟨Nat.le_of_ble_eq_true rfl, Nat.le_of_ble_eq_true rfl, rfl, Nat.le_of_ble_eq_true rfl⟩ (k_X11_fault (d + 131) h106) (show Rn N xs (d + 132) meL 548 [some (.ref 1000000), some (.ref 0), some (.ref 88), some (.int x3)] [(.int v107)] (SH, s) r from ?_)
  refine Rn_sq srtL 282 6 (pc' := 554) (ls' := [some (.ref 1000000), some (.ref 0), some (.ref 88), some (.int x3)]) (st' := [(.int (x3 + (ci 1))), (.ref 1000000), (.ref 88)]) (h1 := (SH, s)) rfl ?_
  obtain ⟨h108, hJ⟩ := m_gn hJ
  refine Rn_ev srtL 288 rfl rfl rfl (op_iaL h_N h_X h108) ?_
  obtain ⟨v110, h109, hJ⟩ := m_b1 hJ
  refine Rn_call srtL 289 rfl rfl rfl ⟨Nat.le_of_ble_eq_true rfl, Nat.le_of_ble_eq_true rfl, rfl, Nat.le_of_ble_eq_true rfl⟩ (k_X12_fault (d + 131) h109) (show Rn N xs (d + 132) meL 558 [some (.ref 1000000), some (.ref 0), some (.ref 88), some (.int x3)] [(.int v110)] (SH, s) r from ?_)
  refine Rn_sq srtL 290 2 (pc' := 1586) (ls' := [some (.ref 1000000), some (.ref 0), some (.ref 88), some (.int x3)]) (st' := []) (h1 := (SH, s)) rfl ?_
  exact (k_law_1586 LN Lx d h_N h_X hJ hC)
def F_law_562 (LN : Nat) (Lx : Nat → Int32) (x3 : Int32) (s : mG) : Option ((Int32 × mG) ⊕ (Int32 × mG)) :=
  if (x3 + (ci 1)) < 0 ∨ LN ≤ (x3 + (ci 1)).toNatClampNeg then none else
  if (x3 + (ci 2)) < 0 ∨ LN ≤ (x3 + (ci 2)).toNatClampNeg then none else
  b2 (F_X11_of (Lx (x3 + (ci 1)).toNatClampNeg) (Lx (x3 + (ci 2)).toNatClampNeg) s) fun v116 s115 =>
  if (x3 + (ci 1)) < 0 ∨ LN ≤ (x3 + (ci 1)).toNatClampNeg then none else
  if (x3 + (ci 2)) < 0 ∨ LN ≤ (x3 + (ci 2)).toNatClampNeg then none else
  b2 (F_X12_of (Lx (x3 + (ci 1)).toNatClampNeg) (Lx (x3 + (ci 2)).toNatClampNeg) s115) fun v121 s120 =>
  F_law_1586 LN Lx x3 s120
set_option maxRecDepth 60000 in
theorem k_law_562 {N : Nat} {xs : Nat → Int32} (LN : Nat) (Lx : Nat → Int32) (d : Nat) (h_N : N = LN) (h_X : xs = Lx) {r : Option Value × mH} {s : mG} {x3 : Int32} {τ : ((Int32 × mG) ⊕ (Int32 × mG))} (hJ : F_law_562 LN Lx x3 s = some τ) (hC : (C_law_18 N xs LN Lx d r (fun τ => r = (some (.int τ.1), (SH, τ.2)))) τ) : Rn N xs (d + 132) meL 562 [some (.ref 1000000), some (.ref 0), some (.ref 88), some (.int x3)] [] (SH, s) r := by
  unfold F_law_562 at hJ
  refine Rn_sq srtL 292 5 (pc' := 567) (ls' := [some (.ref 1000000), some (.ref 0), some (.ref 88), some (.int x3)]) (st' := [(.int (x3 + (ci 1))), (.ref 1000000), (.ref 0)]) (h1 := (SH, s)) rfl ?_
  obtain ⟨h112, hJ⟩ := m_gn hJ
  refine Rn_ev srtL 297 rfl rfl rfl (op_iaL h_N h_X h112) ?_
  refine Rn_sq srtL 298 4 (pc' := 572) (ls' := [some (.ref 1000000), some (.ref 0), some (.ref 88), some (.int x3)]) (st' := [(.int (x3 + (ci 2))), (.ref 1000000), (.int (Lx (x3 + (ci 1)).toNatClampNeg)), (.ref 0)]) (h1 := (SH, s)) rfl ?_
  obtain ⟨h113, hJ⟩ := m_gn hJ
  refine Rn_ev srtL 302 rfl rfl rfl (op_iaL h_N h_X h113) ?_
  obtain ⟨v116, s115, h114, hJ⟩ := m_b2 hJ
  refine Rn_call srtL 303 rfl rfl rfl ⟨Nat.le_of_ble_eq_true rfl, Nat.le_of_ble_eq_true rfl, rfl, Nat.le_of_ble_eq_true rfl⟩ (k_X11_of (d + 126) h114) (show Rn N xs (d + 132) meL 576 [some (.ref 1000000), some (.ref 0), some (.ref 88), some (.int x3)] [(.int v116)] (SH, s115) r from ?_)
  refine Rn_sq srtL 304 6 (pc' := 582) (ls' := [some (.ref 1000000), some (.ref 0), some (.ref 88), some (.int x3)]) (st' := [(.int (x3 + (ci 1))), (.ref 1000000), (.ref 88)]) (h1 := (SH, s115)) rfl ?_
  obtain ⟨h117, hJ⟩ := m_gn hJ
  refine Rn_ev srtL 310 rfl rfl rfl (op_iaL h_N h_X h117) ?_
  refine Rn_sq srtL 311 4 (pc' := 587) (ls' := [some (.ref 1000000), some (.ref 0), some (.ref 88), some (.int x3)]) (st' := [(.int (x3 + (ci 2))), (.ref 1000000), (.int (Lx (x3 + (ci 1)).toNatClampNeg)), (.ref 88)]) (h1 := (SH, s115)) rfl ?_
  obtain ⟨h118, hJ⟩ := m_gn hJ
  refine Rn_ev srtL 315 rfl rfl rfl (op_iaL h_N h_X h118) ?_
  obtain ⟨v121, s120, h119, hJ⟩ := m_b2 hJ
  refine Rn_call srtL 316 rfl rfl rfl ⟨Nat.le_of_ble_eq_true rfl, Nat.le_of_ble_eq_true rfl, rfl, Nat.le_of_ble_eq_true rfl⟩ (k_X12_of (d + 125) h119) (show Rn N xs (d + 132) meL 591 [some (.ref 1000000), some (.ref 0), some (.ref 88), some (.int x3)] [(.int v121)] (SH, s120) r from ?_)
  refine Rn_sq srtL 317 2 (pc' := 1586) (ls' := [some (.ref 1000000), some (.ref 0), some (.ref 88), some (.int x3)]) (st' := []) (h1 := (SH, s120)) rfl ?_
  exact (k_law_1586 LN Lx d h_N h_X hJ hC)
def F_law_595 (LN : Nat) (Lx : Nat → Int32) (x3 : Int32) (s : mG) : Option ((Int32 × mG) ⊕ (Int32 × mG)) :=
  if (x3 + (ci 1)) < 0 ∨ LN ≤ (x3 + (ci 1)).toNatClampNeg then none else
  b1 (F_X11_hook s (Lx (x3 + (ci 1)).toNatClampNeg)) fun v125 =>
  if (x3 + (ci 1)) < 0 ∨ LN ≤ (x3 + (ci 1)).toNatClampNeg then none else
  b1 (F_X12_hook s (Lx (x3 + (ci 1)).toNatClampNeg)) fun v128 =>
  F_law_1586 LN Lx x3 s
set_option maxRecDepth 60000 in
theorem k_law_595 {N : Nat} {xs : Nat → Int32} (LN : Nat) (Lx : Nat → Int32) (d : Nat) (h_N : N = LN) (h_X : xs = Lx) {r : Option Value × mH} {s : mG} {x3 : Int32} {τ : ((Int32 × mG) ⊕ (Int32 × mG))} (hJ : F_law_595 LN Lx x3 s = some τ) (hC : (C_law_18 N xs LN Lx d r (fun τ => r = (some (.int τ.1), (SH, τ.2)))) τ) : Rn N xs (d + 132) meL 595 [some (.ref 1000000), some (.ref 0), some (.ref 88), some (.int x3)] [] (SH, s) r := by
  unfold F_law_595 at hJ
  refine Rn_sq srtL 319 5 (pc' := 600) (ls' := [some (.ref 1000000), some (.ref 0), some (.ref 88), some (.int x3)]) (st' := [(.int (x3 + (ci 1))), (.ref 1000000), (.ref 0)]) (h1 := (SH, s)) rfl ?_
  obtain ⟨h123, hJ⟩ := m_gn hJ
  refine Rn_ev srtL 324 rfl rfl rfl (op_iaL h_N h_X h123) ?_
  obtain ⟨v125, h124, hJ⟩ := m_b1 hJ
  refine Rn_call srtL 325 rfl rfl rfl ⟨Nat.le_of_ble_eq_true rfl, Nat.le_of_ble_eq_true rfl, rfl, Nat.le_of_ble_eq_true rfl⟩ (k_X11_hook (d + 129) h124) (show Rn N xs (d + 132) meL 604 [some (.ref 1000000), some (.ref 0), some (.ref 88), some (.int x3)] [(.int v125)] (SH, s) r from ?_)
  refine Rn_sq srtL 326 6 (pc' := 610) (ls' := [some (.ref 1000000), some (.ref 0), some (.ref 88), some (.int x3)]) (st' := [(.int (x3 + (ci 1))), (.ref 1000000), (.ref 88)]) (h1 := (SH, s)) rfl ?_
  obtain ⟨h126, hJ⟩ := m_gn hJ
  refine Rn_ev srtL 332 rfl rfl rfl (op_iaL h_N h_X h126) ?_
  obtain ⟨v128, h127, hJ⟩ := m_b1 hJ
  refine Rn_call srtL 333 rfl rfl rfl ⟨Nat.le_of_ble_eq_true rfl, Nat.le_of_ble_eq_true rfl, rfl, Nat.le_of_ble_eq_true rfl⟩ (k_X12_hook (d + 129) h127) (show Rn N xs (d + 132) meL 614 [some (.ref 1000000), some (.ref 0), some (.ref 88), some (.int x3)] [(.int v128)] (SH, s) r from ?_)
  refine Rn_sq srtL 334 2 (pc' := 1586) (ls' := [some (.ref 1000000), some (.ref 0), some (.ref 88), some (.int x3)]) (st' := []) (h1 := (SH, s)) rfl ?_
  exact (k_law_1586 LN Lx d h_N h_X hJ hC)
def F_law_618 (LN : Nat) (Lx : Nat → Int32) (x3 : Int32) (s : mG) : Option ((Int32 × mG) ⊕ (Int32 × mG)) :=
  if (x3 + (ci 1)) < 0 ∨ LN ≤ (x3 + (ci 1)).toNatClampNeg then none else
  if (x3 + (ci 2)) < 0 ∨ LN ≤ (x3 + (ci 2)).toNatClampNeg then none else
  b1 (F_X11_sign s (Lx (x3 + (ci 1)).toNatClampNeg) (Lx (x3 + (ci 2)).toNatClampNeg)) fun v133 =>
  if (x3 + (ci 1)) < 0 ∨ LN ≤ (x3 + (ci 1)).toNatClampNeg then none else
  if (x3 + (ci 2)) < 0 ∨ LN ≤ (x3 + (ci 2)).toNatClampNeg then none else
  b1 (F_X12_sign s (Lx (x3 + (ci 1)).toNatClampNeg) (Lx (x3 + (ci 2)).toNatClampNeg)) fun v137 =>
  F_law_1586 LN Lx x3 s
set_option maxRecDepth 60000 in
theorem k_law_618 {N : Nat} {xs : Nat → Int32} (LN : Nat) (Lx : Nat → Int32) (d : Nat) (h_N : N = LN) (h_X : xs = Lx) {r : Option Value × mH} {s : mG} {x3 : Int32} {τ : ((Int32 × mG) ⊕ (Int32 × mG))} (hJ : F_law_618 LN Lx x3 s = some τ) (hC : (C_law_18 N xs LN Lx d r (fun τ => r = (some (.int τ.1), (SH, τ.2)))) τ) : Rn N xs (d + 132) meL 618 [some (.ref 1000000), some (.ref 0), some (.ref 88), some (.int x3)] [] (SH, s) r := by
  unfold F_law_618 at hJ
  refine Rn_sq srtL 336 5 (pc' := 623) (ls' := [some (.ref 1000000), some (.ref 0), some (.ref 88), some (.int x3)]) (st' := [(.int (x3 + (ci 1))), (.ref 1000000), (.ref 0)]) (h1 := (SH, s)) rfl ?_
  obtain ⟨h130, hJ⟩ := m_gn hJ
  refine Rn_ev srtL 341 rfl rfl rfl (op_iaL h_N h_X h130) ?_
  refine Rn_sq srtL 342 4 (pc' := 628) (ls' := [some (.ref 1000000), some (.ref 0), some (.ref 88), some (.int x3)]) (st' := [(.int (x3 + (ci 2))), (.ref 1000000), (.int (Lx (x3 + (ci 1)).toNatClampNeg)), (.ref 0)]) (h1 := (SH, s)) rfl ?_
  obtain ⟨h131, hJ⟩ := m_gn hJ
  refine Rn_ev srtL 346 rfl rfl rfl (op_iaL h_N h_X h131) ?_
  obtain ⟨v133, h132, hJ⟩ := m_b1 hJ
  refine Rn_call srtL 347 rfl rfl rfl ⟨Nat.le_of_ble_eq_true rfl, Nat.le_of_ble_eq_true rfl, rfl, Nat.le_of_ble_eq_true rfl⟩ (k_X11_sign (d + 129) h132) (show Rn N xs (d + 132) meL 632 [some (.ref 1000000), some (.ref 0), some (.ref 88), some (.int x3)] [(.int v133)] (SH, s) r from ?_)
  refine Rn_sq srtL 348 6 (pc' := 638) (ls' := [some (.ref 1000000), some (.ref 0), some (.ref 88), some (.int x3)]) (st' := [(.int (x3 + (ci 1))), (.ref 1000000), (.ref 88)]) (h1 := (SH, s)) rfl ?_
  obtain ⟨h134, hJ⟩ := m_gn hJ
  refine Rn_ev srtL 354 rfl rfl rfl (op_iaL h_N h_X h134) ?_
  refine Rn_sq srtL 355 4 (pc' := 643) (ls' := [some (.ref 1000000), some (.ref 0), some (.ref 88), some (.int x3)]) (st' := [(.int (x3 + (ci 2))), (.ref 1000000), (.int (Lx (x3 + (ci 1)).toNatClampNeg)), (.ref 88)]) (h1 := (SH, s)) rfl ?_
  obtain ⟨h135, hJ⟩ := m_gn hJ
  refine Rn_ev srtL 359 rfl rfl rfl (op_iaL h_N h_X h135) ?_
  obtain ⟨v137, h136, hJ⟩ := m_b1 hJ
  refine Rn_call srtL 360 rfl rfl rfl ⟨Nat.le_of_ble_eq_true rfl, Nat.le_of_ble_eq_true rfl, rfl, Nat.le_of_ble_eq_true rfl⟩ (k_X12_sign (d + 129) h136) (show Rn N xs (d + 132) meL 647 [some (.ref 1000000), some (.ref 0), some (.ref 88), some (.int x3)] [(.int v137)] (SH, s) r from ?_)
  refine Rn_sq srtL 361 2 (pc' := 1586) (ls' := [some (.ref 1000000), some (.ref 0), some (.ref 88), some (.int x3)]) (st' := []) (h1 := (SH, s)) rfl ?_
  exact (k_law_1586 LN Lx d h_N h_X hJ hC)
def F_law_651 (LN : Nat) (Lx : Nat → Int32) (x3 : Int32) (s : mG) : Option ((Int32 × mG) ⊕ (Int32 × mG)) :=
  if (x3 + (ci 1)) < 0 ∨ LN ≤ (x3 + (ci 1)).toNatClampNeg then none else
  if (x3 + (ci 2)) < 0 ∨ LN ≤ (x3 + (ci 2)).toNatClampNeg then none else
  b1 (F_X11_book s (Lx (x3 + (ci 1)).toNatClampNeg) (Lx (x3 + (ci 2)).toNatClampNeg)) fun v142 =>
  if (x3 + (ci 1)) < 0 ∨ LN ≤ (x3 + (ci 1)).toNatClampNeg then none else
  if (x3 + (ci 2)) < 0 ∨ LN ≤ (x3 + (ci 2)).toNatClampNeg then none else
  b1 (F_X12_book s (Lx (x3 + (ci 1)).toNatClampNeg) (Lx (x3 + (ci 2)).toNatClampNeg)) fun v146 =>
  F_law_1586 LN Lx x3 s
set_option maxRecDepth 60000 in
theorem k_law_651 {N : Nat} {xs : Nat → Int32} (LN : Nat) (Lx : Nat → Int32) (d : Nat) (h_N : N = LN) (h_X : xs = Lx) {r : Option Value × mH} {s : mG} {x3 : Int32} {τ : ((Int32 × mG) ⊕ (Int32 × mG))} (hJ : F_law_651 LN Lx x3 s = some τ) (hC : (C_law_18 N xs LN Lx d r (fun τ => r = (some (.int τ.1), (SH, τ.2)))) τ) : Rn N xs (d + 132) meL 651 [some (.ref 1000000), some (.ref 0), some (.ref 88), some (.int x3)] [] (SH, s) r := by
  unfold F_law_651 at hJ
  refine Rn_sq srtL 363 5 (pc' := 656) (ls' := [some (.ref 1000000), some (.ref 0), some (.ref 88), some (.int x3)]) (st' := [(.int (x3 + (ci 1))), (.ref 1000000), (.ref 0)]) (h1 := (SH, s)) rfl ?_
  obtain ⟨h139, hJ⟩ := m_gn hJ
  refine Rn_ev srtL 368 rfl rfl rfl (op_iaL h_N h_X h139) ?_
  refine Rn_sq srtL 369 4 (pc' := 661) (ls' := [some (.ref 1000000), some (.ref 0), some (.ref 88), some (.int x3)]) (st' := [(.int (x3 + (ci 2))), (.ref 1000000), (.int (Lx (x3 + (ci 1)).toNatClampNeg)), (.ref 0)]) (h1 := (SH, s)) rfl ?_
  obtain ⟨h140, hJ⟩ := m_gn hJ
  refine Rn_ev srtL 373 rfl rfl rfl (op_iaL h_N h_X h140) ?_
  obtain ⟨v142, h141, hJ⟩ := m_b1 hJ
  refine Rn_call srtL 374 rfl rfl rfl ⟨Nat.le_of_ble_eq_true rfl, Nat.le_of_ble_eq_true rfl, rfl, Nat.le_of_ble_eq_true rfl⟩ (k_X11_book (d + 130) h141) (show Rn N xs (d + 132) meL 665 [some (.ref 1000000), some (.ref 0), some (.ref 88), some (.int x3)] [(.int v142)] (SH, s) r from ?_)
  refine Rn_sq srtL 375 6 (pc' := 671) (ls' := [some (.ref 1000000), some (.ref 0), some (.ref 88), some (.int x3)]) (st' := [(.int (x3 + (ci 1))), (.ref 1000000), (.ref 88)]) (h1 := (SH, s)) rfl ?_
  obtain ⟨h143, hJ⟩ := m_gn hJ
  refine Rn_ev srtL 381 rfl rfl rfl (op_iaL h_N h_X h143) ?_
  refine Rn_sq srtL 382 4 (pc' := 676) (ls' := [some (.ref 1000000), some (.ref 0), some (.ref 88), some (.int x3)]) (st' := [(.int (x3 + (ci 2))), (.ref 1000000), (.int (Lx (x3 + (ci 1)).toNatClampNeg)), (.ref 88)]) (h1 := (SH, s)) rfl ?_
  obtain ⟨h144, hJ⟩ := m_gn hJ
  refine Rn_ev srtL 386 rfl rfl rfl (op_iaL h_N h_X h144) ?_
  obtain ⟨v146, h145, hJ⟩ := m_b1 hJ
  refine Rn_call srtL 387 rfl rfl rfl ⟨Nat.le_of_ble_eq_true rfl, Nat.le_of_ble_eq_true rfl, rfl, Nat.le_of_ble_eq_true rfl⟩ (k_X12_book (d + 130) h145) (show Rn N xs (d + 132) meL 680 [some (.ref 1000000), some (.ref 0), some (.ref 88), some (.int x3)] [(.int v146)] (SH, s) r from ?_)
  refine Rn_sq srtL 388 2 (pc' := 1586) (ls' := [some (.ref 1000000), some (.ref 0), some (.ref 88), some (.int x3)]) (st' := []) (h1 := (SH, s)) rfl ?_
  exact (k_law_1586 LN Lx d h_N h_X hJ hC)
def F_law_684 (LN : Nat) (Lx : Nat → Int32) (x3 : Int32) (s : mG) : Option ((Int32 × mG) ⊕ (Int32 × mG)) :=
  if (x3 + (ci 1)) < 0 ∨ LN ≤ (x3 + (ci 1)).toNatClampNeg then none else
  b2 (F_X11_next (Lx (x3 + (ci 1)).toNatClampNeg) s) fun v151 s150 =>
  if (x3 + (ci 1)) < 0 ∨ LN ≤ (x3 + (ci 1)).toNatClampNeg then none else
  b2 (F_X12_next (Lx (x3 + (ci 1)).toNatClampNeg) s150) fun v155 s154 =>
  F_law_1586 LN Lx x3 s154
set_option maxRecDepth 60000 in
theorem k_law_684 {N : Nat} {xs : Nat → Int32} (LN : Nat) (Lx : Nat → Int32) (d : Nat) (h_N : N = LN) (h_X : xs = Lx) {r : Option Value × mH} {s : mG} {x3 : Int32} {τ : ((Int32 × mG) ⊕ (Int32 × mG))} (hJ : F_law_684 LN Lx x3 s = some τ) (hC : (C_law_18 N xs LN Lx d r (fun τ => r = (some (.int τ.1), (SH, τ.2)))) τ) : Rn N xs (d + 132) meL 684 [some (.ref 1000000), some (.ref 0), some (.ref 88), some (.int x3)] [] (SH, s) r := by
  unfold F_law_684 at hJ
  refine Rn_sq srtL 390 5 (pc' := 689) (ls' := [some (.ref 1000000), some (.ref 0), some (.ref 88), some (.int x3)]) (st' := [(.int (x3 + (ci 1))), (.ref 1000000), (.ref 0)]) (h1 := (SH, s)) rfl ?_
  obtain ⟨h148, hJ⟩ := m_gn hJ
  refine Rn_ev srtL 395 rfl rfl rfl (op_iaL h_N h_X h148) ?_
  obtain ⟨v151, s150, h149, hJ⟩ := m_b2 hJ
  refine Rn_call srtL 396 rfl rfl rfl ⟨Nat.le_of_ble_eq_true rfl, Nat.le_of_ble_eq_true rfl, rfl, Nat.le_of_ble_eq_true rfl⟩ (k_X11_next (d + 126) h149) (show Rn N xs (d + 132) meL 693 [some (.ref 1000000), some (.ref 0), some (.ref 88), some (.int x3)] [(.int v151)] (SH, s150) r from ?_)
  refine Rn_sq srtL 397 6 (pc' := 699) (ls' := [some (.ref 1000000), some (.ref 0), some (.ref 88), some (.int x3)]) (st' := [(.int (x3 + (ci 1))), (.ref 1000000), (.ref 88)]) (h1 := (SH, s150)) rfl ?_
  obtain ⟨h152, hJ⟩ := m_gn hJ
  refine Rn_ev srtL 403 rfl rfl rfl (op_iaL h_N h_X h152) ?_
  obtain ⟨v155, s154, h153, hJ⟩ := m_b2 hJ
  refine Rn_call srtL 404 rfl rfl rfl ⟨Nat.le_of_ble_eq_true rfl, Nat.le_of_ble_eq_true rfl, rfl, Nat.le_of_ble_eq_true rfl⟩ (k_X12_next (d + 125) h153) (show Rn N xs (d + 132) meL 703 [some (.ref 1000000), some (.ref 0), some (.ref 88), some (.int x3)] [(.int v155)] (SH, s154) r from ?_)
  refine Rn_sq srtL 405 2 (pc' := 1586) (ls' := [some (.ref 1000000), some (.ref 0), some (.ref 88), some (.int x3)]) (st' := []) (h1 := (SH, s154)) rfl ?_
  exact (k_law_1586 LN Lx d h_N h_X hJ hC)
def F_law_707 (LN : Nat) (Lx : Nat → Int32) (x3 : Int32) (s : mG) : Option ((Int32 × mG) ⊕ (Int32 × mG)) :=
  if (x3 + (ci 1)) < 0 ∨ LN ≤ (x3 + (ci 1)).toNatClampNeg then none else
  if (x3 + (ci 2)) < 0 ∨ LN ≤ (x3 + (ci 2)).toNatClampNeg then none else
  if (x3 + (ci 3)) < 0 ∨ LN ≤ (x3 + (ci 3)).toNatClampNeg then none else
  b2 (F_X11_say (Lx (x3 + (ci 1)).toNatClampNeg) (Lx (x3 + (ci 2)).toNatClampNeg) (Lx (x3 + (ci 3)).toNatClampNeg) s) fun v162 s161 =>
  if (x3 + (ci 1)) < 0 ∨ LN ≤ (x3 + (ci 1)).toNatClampNeg then none else
  if (x3 + (ci 2)) < 0 ∨ LN ≤ (x3 + (ci 2)).toNatClampNeg then none else
  if (x3 + (ci 3)) < 0 ∨ LN ≤ (x3 + (ci 3)).toNatClampNeg then none else
  b2 (F_X12_say (Lx (x3 + (ci 1)).toNatClampNeg) (Lx (x3 + (ci 2)).toNatClampNeg) (Lx (x3 + (ci 3)).toNatClampNeg) s161) fun v168 s167 =>
  F_law_1586 LN Lx x3 s167
set_option maxRecDepth 60000 in
theorem k_law_707 {N : Nat} {xs : Nat → Int32} (LN : Nat) (Lx : Nat → Int32) (d : Nat) (h_N : N = LN) (h_X : xs = Lx) {r : Option Value × mH} {s : mG} {x3 : Int32} {τ : ((Int32 × mG) ⊕ (Int32 × mG))} (hJ : F_law_707 LN Lx x3 s = some τ) (hC : (C_law_18 N xs LN Lx d r (fun τ => r = (some (.int τ.1), (SH, τ.2)))) τ) : Rn N xs (d + 132) meL 707 [some (.ref 1000000), some (.ref 0), some (.ref 88), some (.int x3)] [] (SH, s) r := by
  unfold F_law_707 at hJ
  refine Rn_sq srtL 407 5 (pc' := 712) (ls' := [some (.ref 1000000), some (.ref 0), some (.ref 88), some (.int x3)]) (st' := [(.int (x3 + (ci 1))), (.ref 1000000), (.ref 0)]) (h1 := (SH, s)) rfl ?_
  obtain ⟨h157, hJ⟩ := m_gn hJ
  refine Rn_ev srtL 412 rfl rfl rfl (op_iaL h_N h_X h157) ?_
  refine Rn_sq srtL 413 4 (pc' := 717) (ls' := [some (.ref 1000000), some (.ref 0), some (.ref 88), some (.int x3)]) (st' := [(.int (x3 + (ci 2))), (.ref 1000000), (.int (Lx (x3 + (ci 1)).toNatClampNeg)), (.ref 0)]) (h1 := (SH, s)) rfl ?_
  obtain ⟨h158, hJ⟩ := m_gn hJ
  refine Rn_ev srtL 417 rfl rfl rfl (op_iaL h_N h_X h158) ?_
  refine Rn_sq srtL 418 4 (pc' := 722) (ls' := [some (.ref 1000000), some (.ref 0), some (.ref 88), some (.int x3)]) (st' := [(.int (x3 + (ci 3))), (.ref 1000000), (.int (Lx (x3 + (ci 2)).toNatClampNeg)), (.int (Lx (x3 + (ci 1)).toNatClampNeg)), (.ref 0)]) (h1 := (SH, s)) rfl ?_
  obtain ⟨h159, hJ⟩ := m_gn hJ
  refine Rn_ev srtL 422 rfl rfl rfl (op_iaL h_N h_X h159) ?_
  obtain ⟨v162, s161, h160, hJ⟩ := m_b2 hJ
  refine Rn_call srtL 423 rfl rfl rfl ⟨Nat.le_of_ble_eq_true rfl, Nat.le_of_ble_eq_true rfl, rfl, Nat.le_of_ble_eq_true rfl⟩ (k_X11_say (d + 125) h160) (show Rn N xs (d + 132) meL 726 [some (.ref 1000000), some (.ref 0), some (.ref 88), some (.int x3)] [(.int v162)] (SH, s161) r from ?_)
  refine Rn_sq srtL 424 6 (pc' := 732) (ls' := [some (.ref 1000000), some (.ref 0), some (.ref 88), some (.int x3)]) (st' := [(.int (x3 + (ci 1))), (.ref 1000000), (.ref 88)]) (h1 := (SH, s161)) rfl ?_
  obtain ⟨h163, hJ⟩ := m_gn hJ
  refine Rn_ev srtL 430 rfl rfl rfl (op_iaL h_N h_X h163) ?_
  refine Rn_sq srtL 431 4 (pc' := 737) (ls' := [some (.ref 1000000), some (.ref 0), some (.ref 88), some (.int x3)]) (st' := [(.int (x3 + (ci 2))), (.ref 1000000), (.int (Lx (x3 + (ci 1)).toNatClampNeg)), (.ref 88)]) (h1 := (SH, s161)) rfl ?_
  obtain ⟨h164, hJ⟩ := m_gn hJ
  refine Rn_ev srtL 435 rfl rfl rfl (op_iaL h_N h_X h164) ?_
  refine Rn_sq srtL 436 4 (pc' := 742) (ls' := [some (.ref 1000000), some (.ref 0), some (.ref 88), some (.int x3)]) (st' := [(.int (x3 + (ci 3))), (.ref 1000000), (.int (Lx (x3 + (ci 2)).toNatClampNeg)), (.int (Lx (x3 + (ci 1)).toNatClampNeg)), (.ref 88)]) (h1 := (SH, s161)) rfl ?_
  obtain ⟨h165, hJ⟩ := m_gn hJ
  refine Rn_ev srtL 440 rfl rfl rfl (op_iaL h_N h_X h165) ?_
  obtain ⟨v168, s167, h166, hJ⟩ := m_b2 hJ
  refine Rn_call srtL 441 rfl rfl rfl ⟨Nat.le_of_ble_eq_true rfl, Nat.le_of_ble_eq_true rfl, rfl, Nat.le_of_ble_eq_true rfl⟩ (k_X12_say (d + 125) h166) (show Rn N xs (d + 132) meL 746 [some (.ref 1000000), some (.ref 0), some (.ref 88), some (.int x3)] [(.int v168)] (SH, s167) r from ?_)
  refine Rn_sq srtL 442 2 (pc' := 1586) (ls' := [some (.ref 1000000), some (.ref 0), some (.ref 88), some (.int x3)]) (st' := []) (h1 := (SH, s167)) rfl ?_
  exact (k_law_1586 LN Lx d h_N h_X hJ hC)
def F_law_750 (LN : Nat) (Lx : Nat → Int32) (x3 : Int32) (s : mG) : Option ((Int32 × mG) ⊕ (Int32 × mG)) :=
  if (x3 + (ci 1)) < 0 ∨ LN ≤ (x3 + (ci 1)).toNatClampNeg then none else
  b2 (F_X11_many (Lx (x3 + (ci 1)).toNatClampNeg) s) fun v173 s172 =>
  if (x3 + (ci 1)) < 0 ∨ LN ≤ (x3 + (ci 1)).toNatClampNeg then none else
  b2 (F_X12_many (Lx (x3 + (ci 1)).toNatClampNeg) s172) fun v177 s176 =>
  F_law_1586 LN Lx x3 s176
set_option maxRecDepth 60000 in
theorem k_law_750 {N : Nat} {xs : Nat → Int32} (LN : Nat) (Lx : Nat → Int32) (d : Nat) (h_N : N = LN) (h_X : xs = Lx) {r : Option Value × mH} {s : mG} {x3 : Int32} {τ : ((Int32 × mG) ⊕ (Int32 × mG))} (hJ : F_law_750 LN Lx x3 s = some τ) (hC : (C_law_18 N xs LN Lx d r (fun τ => r = (some (.int τ.1), (SH, τ.2)))) τ) : Rn N xs (d + 132) meL 750 [some (.ref 1000000), some (.ref 0), some (.ref 88), some (.int x3)] [] (SH, s) r := by
  unfold F_law_750 at hJ
  refine Rn_sq srtL 444 5 (pc' := 755) (ls' := [some (.ref 1000000), some (.ref 0), some (.ref 88), some (.int x3)]) (st' := [(.int (x3 + (ci 1))), (.ref 1000000), (.ref 0)]) (h1 := (SH, s)) rfl ?_
  obtain ⟨h170, hJ⟩ := m_gn hJ
  refine Rn_ev srtL 449 rfl rfl rfl (op_iaL h_N h_X h170) ?_
  obtain ⟨v173, s172, h171, hJ⟩ := m_b2 hJ
  refine Rn_call srtL 450 rfl rfl rfl ⟨Nat.le_of_ble_eq_true rfl, Nat.le_of_ble_eq_true rfl, rfl, Nat.le_of_ble_eq_true rfl⟩ (k_X11_many (d + 124) h171) (show Rn N xs (d + 132) meL 759 [some (.ref 1000000), some (.ref 0), some (.ref 88), some (.int x3)] [(.int v173)] (SH, s172) r from ?_)
  refine Rn_sq srtL 451 6 (pc' := 765) (ls' := [some (.ref 1000000), some (.ref 0), some (.ref 88), some (.int x3)]) (st' := [(.int (x3 + (ci 1))), (.ref 1000000), (.ref 88)]) (h1 := (SH, s172)) rfl ?_
  obtain ⟨h174, hJ⟩ := m_gn hJ
  refine Rn_ev srtL 457 rfl rfl rfl (op_iaL h_N h_X h174) ?_
  obtain ⟨v177, s176, h175, hJ⟩ := m_b2 hJ
  refine Rn_call srtL 458 rfl rfl rfl ⟨Nat.le_of_ble_eq_true rfl, Nat.le_of_ble_eq_true rfl, rfl, Nat.le_of_ble_eq_true rfl⟩ (k_X12_many (d + 124) h175) (show Rn N xs (d + 132) meL 769 [some (.ref 1000000), some (.ref 0), some (.ref 88), some (.int x3)] [(.int v177)] (SH, s176) r from ?_)
  refine Rn_sq srtL 459 2 (pc' := 1586) (ls' := [some (.ref 1000000), some (.ref 0), some (.ref 88), some (.int x3)]) (st' := []) (h1 := (SH, s176)) rfl ?_
  exact (k_law_1586 LN Lx d h_N h_X hJ hC)
def F_law_773 (LN : Nat) (Lx : Nat → Int32) (x3 : Int32) (s : mG) : Option ((Int32 × mG) ⊕ (Int32 × mG)) :=
  if (x3 + (ci 1)) < 0 ∨ LN ≤ (x3 + (ci 1)).toNatClampNeg then none else
  if (x3 + (ci 2)) < 0 ∨ LN ≤ (x3 + (ci 2)).toNatClampNeg then none else
  b2 (F_X11_span (Lx (x3 + (ci 1)).toNatClampNeg) (Lx (x3 + (ci 2)).toNatClampNeg) s) fun v183 s182 =>
  if (x3 + (ci 1)) < 0 ∨ LN ≤ (x3 + (ci 1)).toNatClampNeg then none else
  if (x3 + (ci 2)) < 0 ∨ LN ≤ (x3 + (ci 2)).toNatClampNeg then none else
  b2 (F_X12_span (Lx (x3 + (ci 1)).toNatClampNeg) (Lx (x3 + (ci 2)).toNatClampNeg) s182) fun v188 s187 =>
  F_law_1586 LN Lx x3 s187
set_option maxRecDepth 60000 in
theorem k_law_773 {N : Nat} {xs : Nat → Int32} (LN : Nat) (Lx : Nat → Int32) (d : Nat) (h_N : N = LN) (h_X : xs = Lx) {r : Option Value × mH} {s : mG} {x3 : Int32} {τ : ((Int32 × mG) ⊕ (Int32 × mG))} (hJ : F_law_773 LN Lx x3 s = some τ) (hC : (C_law_18 N xs LN Lx d r (fun τ => r = (some (.int τ.1), (SH, τ.2)))) τ) : Rn N xs (d + 132) meL 773 [some (.ref 1000000), some (.ref 0), some (.ref 88), some (.int x3)] [] (SH, s) r := by
  unfold F_law_773 at hJ
  refine Rn_sq srtL 461 5 (pc' := 778) (ls' := [some (.ref 1000000), some (.ref 0), some (.ref 88), some (.int x3)]) (st' := [(.int (x3 + (ci 1))), (.ref 1000000), (.ref 0)]) (h1 := (SH, s)) rfl ?_
  obtain ⟨h179, hJ⟩ := m_gn hJ
  refine Rn_ev srtL 466 rfl rfl rfl (op_iaL h_N h_X h179) ?_
  refine Rn_sq srtL 467 4 (pc' := 783) (ls' := [some (.ref 1000000), some (.ref 0), some (.ref 88), some (.int x3)]) (st' := [(.int (x3 + (ci 2))), (.ref 1000000), (.int (Lx (x3 + (ci 1)).toNatClampNeg)), (.ref 0)]) (h1 := (SH, s)) rfl ?_
  obtain ⟨h180, hJ⟩ := m_gn hJ
  refine Rn_ev srtL 471 rfl rfl rfl (op_iaL h_N h_X h180) ?_
  obtain ⟨v183, s182, h181, hJ⟩ := m_b2 hJ
  refine Rn_call srtL 472 rfl rfl rfl ⟨Nat.le_of_ble_eq_true rfl, Nat.le_of_ble_eq_true rfl, rfl, Nat.le_of_ble_eq_true rfl⟩ (k_X11_span (d + 124) h181) (show Rn N xs (d + 132) meL 787 [some (.ref 1000000), some (.ref 0), some (.ref 88), some (.int x3)] [(.int v183)] (SH, s182) r from ?_)
  refine Rn_sq srtL 473 6 (pc' := 793) (ls' := [some (.ref 1000000), some (.ref 0), some (.ref 88), some (.int x3)]) (st' := [(.int (x3 + (ci 1))), (.ref 1000000), (.ref 88)]) (h1 := (SH, s182)) rfl ?_
  obtain ⟨h184, hJ⟩ := m_gn hJ
  refine Rn_ev srtL 479 rfl rfl rfl (op_iaL h_N h_X h184) ?_
  refine Rn_sq srtL 480 4 (pc' := 798) (ls' := [some (.ref 1000000), some (.ref 0), some (.ref 88), some (.int x3)]) (st' := [(.int (x3 + (ci 2))), (.ref 1000000), (.int (Lx (x3 + (ci 1)).toNatClampNeg)), (.ref 88)]) (h1 := (SH, s182)) rfl ?_
  obtain ⟨h185, hJ⟩ := m_gn hJ
  refine Rn_ev srtL 484 rfl rfl rfl (op_iaL h_N h_X h185) ?_
  obtain ⟨v188, s187, h186, hJ⟩ := m_b2 hJ
  refine Rn_call srtL 485 rfl rfl rfl ⟨Nat.le_of_ble_eq_true rfl, Nat.le_of_ble_eq_true rfl, rfl, Nat.le_of_ble_eq_true rfl⟩ (k_X12_span (d + 124) h186) (show Rn N xs (d + 132) meL 802 [some (.ref 1000000), some (.ref 0), some (.ref 88), some (.int x3)] [(.int v188)] (SH, s187) r from ?_)
  refine Rn_sq srtL 486 2 (pc' := 1586) (ls' := [some (.ref 1000000), some (.ref 0), some (.ref 88), some (.int x3)]) (st' := []) (h1 := (SH, s187)) rfl ?_
  exact (k_law_1586 LN Lx d h_N h_X hJ hC)
def F_law_806 (LN : Nat) (Lx : Nat → Int32) (x3 : Int32) (s : mG) : Option ((Int32 × mG) ⊕ (Int32 × mG)) :=
  if (x3 + (ci 1)) < 0 ∨ LN ≤ (x3 + (ci 1)).toNatClampNeg then none else
  if (x3 + (ci 2)) < 0 ∨ LN ≤ (x3 + (ci 2)).toNatClampNeg then none else
  b2 (F_X11_counted (Lx (x3 + (ci 1)).toNatClampNeg) (Lx (x3 + (ci 2)).toNatClampNeg) s) fun v194 s193 =>
  if (x3 + (ci 1)) < 0 ∨ LN ≤ (x3 + (ci 1)).toNatClampNeg then none else
  if (x3 + (ci 2)) < 0 ∨ LN ≤ (x3 + (ci 2)).toNatClampNeg then none else
  b2 (F_X12_counted (Lx (x3 + (ci 1)).toNatClampNeg) (Lx (x3 + (ci 2)).toNatClampNeg) s193) fun v199 s198 =>
  F_law_1586 LN Lx x3 s198
set_option maxRecDepth 60000 in
theorem k_law_806 {N : Nat} {xs : Nat → Int32} (LN : Nat) (Lx : Nat → Int32) (d : Nat) (h_N : N = LN) (h_X : xs = Lx) {r : Option Value × mH} {s : mG} {x3 : Int32} {τ : ((Int32 × mG) ⊕ (Int32 × mG))} (hJ : F_law_806 LN Lx x3 s = some τ) (hC : (C_law_18 N xs LN Lx d r (fun τ => r = (some (.int τ.1), (SH, τ.2)))) τ) : Rn N xs (d + 132) meL 806 [some (.ref 1000000), some (.ref 0), some (.ref 88), some (.int x3)] [] (SH, s) r := by
  unfold F_law_806 at hJ
  refine Rn_sq srtL 488 5 (pc' := 811) (ls' := [some (.ref 1000000), some (.ref 0), some (.ref 88), some (.int x3)]) (st' := [(.int (x3 + (ci 1))), (.ref 1000000), (.ref 0)]) (h1 := (SH, s)) rfl ?_
  obtain ⟨h190, hJ⟩ := m_gn hJ
  refine Rn_ev srtL 493 rfl rfl rfl (op_iaL h_N h_X h190) ?_
  refine Rn_sq srtL 494 4 (pc' := 816) (ls' := [some (.ref 1000000), some (.ref 0), some (.ref 88), some (.int x3)]) (st' := [(.int (x3 + (ci 2))), (.ref 1000000), (.int (Lx (x3 + (ci 1)).toNatClampNeg)), (.ref 0)]) (h1 := (SH, s)) rfl ?_
  obtain ⟨h191, hJ⟩ := m_gn hJ
  refine Rn_ev srtL 498 rfl rfl rfl (op_iaL h_N h_X h191) ?_
  obtain ⟨v194, s193, h192, hJ⟩ := m_b2 hJ
  refine Rn_call srtL 499 rfl rfl rfl ⟨Nat.le_of_ble_eq_true rfl, Nat.le_of_ble_eq_true rfl, rfl, Nat.le_of_ble_eq_true rfl⟩ (k_X11_counted (d + 124) h192) (show Rn N xs (d + 132) meL 820 [some (.ref 1000000), some (.ref 0), some (.ref 88), some (.int x3)] [(.int v194)] (SH, s193) r from ?_)
  refine Rn_sq srtL 500 6 (pc' := 826) (ls' := [some (.ref 1000000), some (.ref 0), some (.ref 88), some (.int x3)]) (st' := [(.int (x3 + (ci 1))), (.ref 1000000), (.ref 88)]) (h1 := (SH, s193)) rfl ?_
  obtain ⟨h195, hJ⟩ := m_gn hJ
  refine Rn_ev srtL 506 rfl rfl rfl (op_iaL h_N h_X h195) ?_
  refine Rn_sq srtL 507 4 (pc' := 831) (ls' := [some (.ref 1000000), some (.ref 0), some (.ref 88), some (.int x3)]) (st' := [(.int (x3 + (ci 2))), (.ref 1000000), (.int (Lx (x3 + (ci 1)).toNatClampNeg)), (.ref 88)]) (h1 := (SH, s193)) rfl ?_
  obtain ⟨h196, hJ⟩ := m_gn hJ
  refine Rn_ev srtL 511 rfl rfl rfl (op_iaL h_N h_X h196) ?_
  obtain ⟨v199, s198, h197, hJ⟩ := m_b2 hJ
  refine Rn_call srtL 512 rfl rfl rfl ⟨Nat.le_of_ble_eq_true rfl, Nat.le_of_ble_eq_true rfl, rfl, Nat.le_of_ble_eq_true rfl⟩ (k_X12_counted (d + 124) h197) (show Rn N xs (d + 132) meL 835 [some (.ref 1000000), some (.ref 0), some (.ref 88), some (.int x3)] [(.int v199)] (SH, s198) r from ?_)
  refine Rn_sq srtL 513 2 (pc' := 1586) (ls' := [some (.ref 1000000), some (.ref 0), some (.ref 88), some (.int x3)]) (st' := []) (h1 := (SH, s198)) rfl ?_
  exact (k_law_1586 LN Lx d h_N h_X hJ hC)
def F_law_839 (LN : Nat) (Lx : Nat → Int32) (x3 : Int32) (s : mG) : Option ((Int32 × mG) ⊕ (Int32 × mG)) :=
  if (x3 + (ci 1)) < 0 ∨ LN ≤ (x3 + (ci 1)).toNatClampNeg then none else
  if (x3 + (ci 2)) < 0 ∨ LN ≤ (x3 + (ci 2)).toNatClampNeg then none else
  b2 (F_X11_visit (Lx (x3 + (ci 1)).toNatClampNeg) (Lx (x3 + (ci 2)).toNatClampNeg) s) fun v205 s204 =>
  if (x3 + (ci 1)) < 0 ∨ LN ≤ (x3 + (ci 1)).toNatClampNeg then none else
  if (x3 + (ci 2)) < 0 ∨ LN ≤ (x3 + (ci 2)).toNatClampNeg then none else
  b2 (F_X12_visit (Lx (x3 + (ci 1)).toNatClampNeg) (Lx (x3 + (ci 2)).toNatClampNeg) s204) fun v210 s209 =>
  F_law_1586 LN Lx x3 s209
set_option maxRecDepth 60000 in
theorem k_law_839 {N : Nat} {xs : Nat → Int32} (LN : Nat) (Lx : Nat → Int32) (d : Nat) (h_N : N = LN) (h_X : xs = Lx) {r : Option Value × mH} {s : mG} {x3 : Int32} {τ : ((Int32 × mG) ⊕ (Int32 × mG))} (hJ : F_law_839 LN Lx x3 s = some τ) (hC : (C_law_18 N xs LN Lx d r (fun τ => r = (some (.int τ.1), (SH, τ.2)))) τ) : Rn N xs (d + 132) meL 839 [some (.ref 1000000), some (.ref 0), some (.ref 88), some (.int x3)] [] (SH, s) r := by
  unfold F_law_839 at hJ
  refine Rn_sq srtL 515 5 (pc' := 844) (ls' := [some (.ref 1000000), some (.ref 0), some (.ref 88), some (.int x3)]) (st' := [(.int (x3 + (ci 1))), (.ref 1000000), (.ref 0)]) (h1 := (SH, s)) rfl ?_
  obtain ⟨h201, hJ⟩ := m_gn hJ
  refine Rn_ev srtL 520 rfl rfl rfl (op_iaL h_N h_X h201) ?_
  refine Rn_sq srtL 521 4 (pc' := 849) (ls' := [some (.ref 1000000), some (.ref 0), some (.ref 88), some (.int x3)]) (st' := [(.int (x3 + (ci 2))), (.ref 1000000), (.int (Lx (x3 + (ci 1)).toNatClampNeg)), (.ref 0)]) (h1 := (SH, s)) rfl ?_
  obtain ⟨h202, hJ⟩ := m_gn hJ
  refine Rn_ev srtL 525 rfl rfl rfl (op_iaL h_N h_X h202) ?_
  obtain ⟨v205, s204, h203, hJ⟩ := m_b2 hJ
  refine Rn_call srtL 526 rfl rfl rfl ⟨Nat.le_of_ble_eq_true rfl, Nat.le_of_ble_eq_true rfl, rfl, Nat.le_of_ble_eq_true rfl⟩ (k_X11_visit (d + 126) h203) (show Rn N xs (d + 132) meL 853 [some (.ref 1000000), some (.ref 0), some (.ref 88), some (.int x3)] [(.int v205)] (SH, s204) r from ?_)
  refine Rn_sq srtL 527 6 (pc' := 859) (ls' := [some (.ref 1000000), some (.ref 0), some (.ref 88), some (.int x3)]) (st' := [(.int (x3 + (ci 1))), (.ref 1000000), (.ref 88)]) (h1 := (SH, s204)) rfl ?_
  obtain ⟨h206, hJ⟩ := m_gn hJ
  refine Rn_ev srtL 533 rfl rfl rfl (op_iaL h_N h_X h206) ?_
  refine Rn_sq srtL 534 4 (pc' := 864) (ls' := [some (.ref 1000000), some (.ref 0), some (.ref 88), some (.int x3)]) (st' := [(.int (x3 + (ci 2))), (.ref 1000000), (.int (Lx (x3 + (ci 1)).toNatClampNeg)), (.ref 88)]) (h1 := (SH, s204)) rfl ?_
  obtain ⟨h207, hJ⟩ := m_gn hJ
  refine Rn_ev srtL 538 rfl rfl rfl (op_iaL h_N h_X h207) ?_
  obtain ⟨v210, s209, h208, hJ⟩ := m_b2 hJ
  refine Rn_call srtL 539 rfl rfl rfl ⟨Nat.le_of_ble_eq_true rfl, Nat.le_of_ble_eq_true rfl, rfl, Nat.le_of_ble_eq_true rfl⟩ (k_X12_visit (d + 125) h208) (show Rn N xs (d + 132) meL 868 [some (.ref 1000000), some (.ref 0), some (.ref 88), some (.int x3)] [(.int v210)] (SH, s209) r from ?_)
  refine Rn_sq srtL 540 2 (pc' := 1586) (ls' := [some (.ref 1000000), some (.ref 0), some (.ref 88), some (.int x3)]) (st' := []) (h1 := (SH, s209)) rfl ?_
  exact (k_law_1586 LN Lx d h_N h_X hJ hC)
def F_law_872 (LN : Nat) (Lx : Nat → Int32) (x3 : Int32) (s : mG) : Option ((Int32 × mG) ⊕ (Int32 × mG)) :=
  if (x3 + (ci 1)) < 0 ∨ LN ≤ (x3 + (ci 1)).toNatClampNeg then none else
  b2 (F_X11_empty (Lx (x3 + (ci 1)).toNatClampNeg) s) fun v215 s214 =>
  if (x3 + (ci 1)) < 0 ∨ LN ≤ (x3 + (ci 1)).toNatClampNeg then none else
  b2 (F_X12_empty (Lx (x3 + (ci 1)).toNatClampNeg) s214) fun v219 s218 =>
  F_law_1586 LN Lx x3 s218
set_option maxRecDepth 60000 in
theorem k_law_872 {N : Nat} {xs : Nat → Int32} (LN : Nat) (Lx : Nat → Int32) (d : Nat) (h_N : N = LN) (h_X : xs = Lx) {r : Option Value × mH} {s : mG} {x3 : Int32} {τ : ((Int32 × mG) ⊕ (Int32 × mG))} (hJ : F_law_872 LN Lx x3 s = some τ) (hC : (C_law_18 N xs LN Lx d r (fun τ => r = (some (.int τ.1), (SH, τ.2)))) τ) : Rn N xs (d + 132) meL 872 [some (.ref 1000000), some (.ref 0), some (.ref 88), some (.int x3)] [] (SH, s) r := by
  unfold F_law_872 at hJ
  refine Rn_sq srtL 542 5 (pc' := 877) (ls' := [some (.ref 1000000), some (.ref 0), some (.ref 88), some (.int x3)]) (st' := [(.int (x3 + (ci 1))), (.ref 1000000), (.ref 0)]) (h1 := (SH, s)) rfl ?_
  obtain ⟨h212, hJ⟩ := m_gn hJ
  refine Rn_ev srtL 547 rfl rfl rfl (op_iaL h_N h_X h212) ?_
  obtain ⟨v215, s214, h213, hJ⟩ := m_b2 hJ
  refine Rn_call srtL 548 rfl rfl rfl ⟨Nat.le_of_ble_eq_true rfl, Nat.le_of_ble_eq_true rfl, rfl, Nat.le_of_ble_eq_true rfl⟩ (k_X11_empty (d + 125) h213) (show Rn N xs (d + 132) meL 881 [some (.ref 1000000), some (.ref 0), some (.ref 88), some (.int x3)] [(.int v215)] (SH, s214) r from ?_)
  refine Rn_sq srtL 549 6 (pc' := 887) (ls' := [some (.ref 1000000), some (.ref 0), some (.ref 88), some (.int x3)]) (st' := [(.int (x3 + (ci 1))), (.ref 1000000), (.ref 88)]) (h1 := (SH, s214)) rfl ?_
  obtain ⟨h216, hJ⟩ := m_gn hJ
  refine Rn_ev srtL 555 rfl rfl rfl (op_iaL h_N h_X h216) ?_
  obtain ⟨v219, s218, h217, hJ⟩ := m_b2 hJ
  refine Rn_call srtL 556 rfl rfl rfl ⟨Nat.le_of_ble_eq_true rfl, Nat.le_of_ble_eq_true rfl, rfl, Nat.le_of_ble_eq_true rfl⟩ (k_X12_empty (d + 125) h217) (show Rn N xs (d + 132) meL 891 [some (.ref 1000000), some (.ref 0), some (.ref 88), some (.int x3)] [(.int v219)] (SH, s218) r from ?_)
  refine Rn_sq srtL 557 2 (pc' := 1586) (ls' := [some (.ref 1000000), some (.ref 0), some (.ref 88), some (.int x3)]) (st' := []) (h1 := (SH, s218)) rfl ?_
  exact (k_law_1586 LN Lx d h_N h_X hJ hC)
def F_law_895 (LN : Nat) (Lx : Nat → Int32) (x3 : Int32) (s : mG) : Option ((Int32 × mG) ⊕ (Int32 × mG)) :=
  b1 (F_X11_thief s) fun v222 =>
  b1 (F_X12_thief s) fun v224 =>
  F_law_1586 LN Lx x3 s
set_option maxRecDepth 60000 in
theorem k_law_895 {N : Nat} {xs : Nat → Int32} (LN : Nat) (Lx : Nat → Int32) (d : Nat) (h_N : N = LN) (h_X : xs = Lx) {r : Option Value × mH} {s : mG} {x3 : Int32} {τ : ((Int32 × mG) ⊕ (Int32 × mG))} (hJ : F_law_895 LN Lx x3 s = some τ) (hC : (C_law_18 N xs LN Lx d r (fun τ => r = (some (.int τ.1), (SH, τ.2)))) τ) : Rn N xs (d + 132) meL 895 [some (.ref 1000000), some (.ref 0), some (.ref 88), some (.int x3)] [] (SH, s) r := by
  unfold F_law_895 at hJ
  refine Rn_sq srtL 559 1 (pc' := 896) (ls' := [some (.ref 1000000), some (.ref 0), some (.ref 88), some (.int x3)]) (st' := [(.ref 0)]) (h1 := (SH, s)) rfl ?_
  obtain ⟨v222, h221, hJ⟩ := m_b1 hJ
  refine Rn_call srtL 560 rfl rfl rfl ⟨Nat.le_of_ble_eq_true rfl, Nat.le_of_ble_eq_true rfl, rfl, Nat.le_of_ble_eq_true rfl⟩ (k_X11_thief (d + 128) h221) (show Rn N xs (d + 132) meL 899 [some (.ref 1000000), some (.ref 0), some (.ref 88), some (.int x3)] [(.int v222)] (SH, s) r from ?_)
  refine Rn_sq srtL 561 2 (pc' := 901) (ls' := [some (.ref 1000000), some (.ref 0), some (.ref 88), some (.int x3)]) (st' := [(.ref 88)]) (h1 := (SH, s)) rfl ?_
  obtain ⟨v224, h223, hJ⟩ := m_b1 hJ
  refine Rn_call srtL 563 rfl rfl rfl ⟨Nat.le_of_ble_eq_true rfl, Nat.le_of_ble_eq_true rfl, rfl, Nat.le_of_ble_eq_true rfl⟩ (k_X12_thief (d + 131) h223) (show Rn N xs (d + 132) meL 904 [some (.ref 1000000), some (.ref 0), some (.ref 88), some (.int x3)] [(.int v224)] (SH, s) r from ?_)
  refine Rn_sq srtL 564 2 (pc' := 1586) (ls' := [some (.ref 1000000), some (.ref 0), some (.ref 88), some (.int x3)]) (st' := []) (h1 := (SH, s)) rfl ?_
  exact (k_law_1586 LN Lx d h_N h_X hJ hC)
def F_law_908 (LN : Nat) (Lx : Nat → Int32) (x3 : Int32) (s : mG) : Option ((Int32 × mG) ⊕ (Int32 × mG)) :=
  if (x3 + (ci 1)) < 0 ∨ LN ≤ (x3 + (ci 1)).toNatClampNeg then none else
  if (x3 + (ci 2)) < 0 ∨ LN ≤ (x3 + (ci 2)).toNatClampNeg then none else
  if (x3 + (ci 3)) < 0 ∨ LN ≤ (x3 + (ci 3)).toNatClampNeg then none else
  b2 (F_X11_tagCost (Lx (x3 + (ci 1)).toNatClampNeg) (Lx (x3 + (ci 2)).toNatClampNeg) (Lx (x3 + (ci 3)).toNatClampNeg) s) fun v231 s230 =>
  if (x3 + (ci 1)) < 0 ∨ LN ≤ (x3 + (ci 1)).toNatClampNeg then none else
  if (x3 + (ci 2)) < 0 ∨ LN ≤ (x3 + (ci 2)).toNatClampNeg then none else
  if (x3 + (ci 3)) < 0 ∨ LN ≤ (x3 + (ci 3)).toNatClampNeg then none else
  b2 (F_X12_tagCost (Lx (x3 + (ci 1)).toNatClampNeg) (Lx (x3 + (ci 2)).toNatClampNeg) (Lx (x3 + (ci 3)).toNatClampNeg) s230) fun v237 s236 =>
  F_law_1586 LN Lx x3 s236
set_option maxRecDepth 60000 in
theorem k_law_908 {N : Nat} {xs : Nat → Int32} (LN : Nat) (Lx : Nat → Int32) (d : Nat) (h_N : N = LN) (h_X : xs = Lx) {r : Option Value × mH} {s : mG} {x3 : Int32} {τ : ((Int32 × mG) ⊕ (Int32 × mG))} (hJ : F_law_908 LN Lx x3 s = some τ) (hC : (C_law_18 N xs LN Lx d r (fun τ => r = (some (.int τ.1), (SH, τ.2)))) τ) : Rn N xs (d + 132) meL 908 [some (.ref 1000000), some (.ref 0), some (.ref 88), some (.int x3)] [] (SH, s) r := by
  unfold F_law_908 at hJ
  refine Rn_sq srtL 566 5 (pc' := 913) (ls' := [some (.ref 1000000), some (.ref 0), some (.ref 88), some (.int x3)]) (st' := [(.int (x3 + (ci 1))), (.ref 1000000), (.ref 0)]) (h1 := (SH, s)) rfl ?_
  obtain ⟨h226, hJ⟩ := m_gn hJ
  refine Rn_ev srtL 571 rfl rfl rfl (op_iaL h_N h_X h226) ?_
  refine Rn_sq srtL 572 4 (pc' := 918) (ls' := [some (.ref 1000000), some (.ref 0), some (.ref 88), some (.int x3)]) (st' := [(.int (x3 + (ci 2))), (.ref 1000000), (.int (Lx (x3 + (ci 1)).toNatClampNeg)), (.ref 0)]) (h1 := (SH, s)) rfl ?_
  obtain ⟨h227, hJ⟩ := m_gn hJ
  refine Rn_ev srtL 576 rfl rfl rfl (op_iaL h_N h_X h227) ?_
  refine Rn_sq srtL 577 4 (pc' := 923) (ls' := [some (.ref 1000000), some (.ref 0), some (.ref 88), some (.int x3)]) (st' := [(.int (x3 + (ci 3))), (.ref 1000000), (.int (Lx (x3 + (ci 2)).toNatClampNeg)), (.int (Lx (x3 + (ci 1)).toNatClampNeg)), (.ref 0)]) (h1 := (SH, s)) rfl ?_
  obtain ⟨h228, hJ⟩ := m_gn hJ
  refine Rn_ev srtL 581 rfl rfl rfl (op_iaL h_N h_X h228) ?_
  obtain ⟨v231, s230, h229, hJ⟩ := m_b2 hJ
  refine Rn_call srtL 582 rfl rfl rfl ⟨Nat.le_of_ble_eq_true rfl, Nat.le_of_ble_eq_true rfl, rfl, Nat.le_of_ble_eq_true rfl⟩ (k_X11_tagCost (d + 127) h229) (show Rn N xs (d + 132) meL 927 [some (.ref 1000000), some (.ref 0), some (.ref 88), some (.int x3)] [(.int v231)] (SH, s230) r from ?_)
  refine Rn_sq srtL 583 6 (pc' := 933) (ls' := [some (.ref 1000000), some (.ref 0), some (.ref 88), some (.int x3)]) (st' := [(.int (x3 + (ci 1))), (.ref 1000000), (.ref 88)]) (h1 := (SH, s230)) rfl ?_
  obtain ⟨h232, hJ⟩ := m_gn hJ
  refine Rn_ev srtL 589 rfl rfl rfl (op_iaL h_N h_X h232) ?_
  refine Rn_sq srtL 590 4 (pc' := 938) (ls' := [some (.ref 1000000), some (.ref 0), some (.ref 88), some (.int x3)]) (st' := [(.int (x3 + (ci 2))), (.ref 1000000), (.int (Lx (x3 + (ci 1)).toNatClampNeg)), (.ref 88)]) (h1 := (SH, s230)) rfl ?_
  obtain ⟨h233, hJ⟩ := m_gn hJ
  refine Rn_ev srtL 594 rfl rfl rfl (op_iaL h_N h_X h233) ?_
  refine Rn_sq srtL 595 4 (pc' := 943) (ls' := [some (.ref 1000000), some (.ref 0), some (.ref 88), some (.int x3)]) (st' := [(.int (x3 + (ci 3))), (.ref 1000000), (.int (Lx (x3 + (ci 2)).toNatClampNeg)), (.int (Lx (x3 + (ci 1)).toNatClampNeg)), (.ref 88)]) (h1 := (SH, s230)) rfl ?_
  obtain ⟨h234, hJ⟩ := m_gn hJ
  refine Rn_ev srtL 599 rfl rfl rfl (op_iaL h_N h_X h234) ?_
  obtain ⟨v237, s236, h235, hJ⟩ := m_b2 hJ
  refine Rn_call srtL 600 rfl rfl rfl ⟨Nat.le_of_ble_eq_true rfl, Nat.le_of_ble_eq_true rfl, rfl, Nat.le_of_ble_eq_true rfl⟩ (k_X12_tagCost (d + 126) h235) (show Rn N xs (d + 132) meL 947 [some (.ref 1000000), some (.ref 0), some (.ref 88), some (.int x3)] [(.int v237)] (SH, s236) r from ?_)
  refine Rn_sq srtL 601 2 (pc' := 1586) (ls' := [some (.ref 1000000), some (.ref 0), some (.ref 88), some (.int x3)]) (st' := []) (h1 := (SH, s236)) rfl ?_
  exact (k_law_1586 LN Lx d h_N h_X hJ hC)
def F_law_951 (LN : Nat) (Lx : Nat → Int32) (x3 : Int32) (s : mG) : Option ((Int32 × mG) ⊕ (Int32 × mG)) :=
  if (x3 + (ci 1)) < 0 ∨ LN ≤ (x3 + (ci 1)).toNatClampNeg then none else
  if (x3 + (ci 2)) < 0 ∨ LN ≤ (x3 + (ci 2)).toNatClampNeg then none else
  b1 (F_X11_saw s (Lx (x3 + (ci 1)).toNatClampNeg) (Lx (x3 + (ci 2)).toNatClampNeg)) fun v242 =>
  if (x3 + (ci 1)) < 0 ∨ LN ≤ (x3 + (ci 1)).toNatClampNeg then none else
  if (x3 + (ci 2)) < 0 ∨ LN ≤ (x3 + (ci 2)).toNatClampNeg then none else
  b1 (F_X12_saw s (Lx (x3 + (ci 1)).toNatClampNeg) (Lx (x3 + (ci 2)).toNatClampNeg)) fun v246 =>
  F_law_1586 LN Lx x3 s
set_option maxRecDepth 60000 in
theorem k_law_951 {N : Nat} {xs : Nat → Int32} (LN : Nat) (Lx : Nat → Int32) (d : Nat) (h_N : N = LN) (h_X : xs = Lx) {r : Option Value × mH} {s : mG} {x3 : Int32} {τ : ((Int32 × mG) ⊕ (Int32 × mG))} (hJ : F_law_951 LN Lx x3 s = some τ) (hC : (C_law_18 N xs LN Lx d r (fun τ => r = (some (.int τ.1), (SH, τ.2)))) τ) : Rn N xs (d + 132) meL 951 [some (.ref 1000000), some (.ref 0), some (.ref 88), some (.int x3)] [] (SH, s) r := by
  unfold F_law_951 at hJ
  refine Rn_sq srtL 603 5 (pc' := 956) (ls' := [some (.ref 1000000), some (.ref 0), some (.ref 88), some (.int x3)]) (st' := [(.int (x3 + (ci 1))), (.ref 1000000), (.ref 0)]) (h1 := (SH, s)) rfl ?_
  obtain ⟨h239, hJ⟩ := m_gn hJ
  refine Rn_ev srtL 608 rfl rfl rfl (op_iaL h_N h_X h239) ?_
  refine Rn_sq srtL 609 4 (pc' := 961) (ls' := [some (.ref 1000000), some (.ref 0), some (.ref 88), some (.int x3)]) (st' := [(.int (x3 + (ci 2))), (.ref 1000000), (.int (Lx (x3 + (ci 1)).toNatClampNeg)), (.ref 0)]) (h1 := (SH, s)) rfl ?_
  obtain ⟨h240, hJ⟩ := m_gn hJ
  refine Rn_ev srtL 613 rfl rfl rfl (op_iaL h_N h_X h240) ?_
  obtain ⟨v242, h241, hJ⟩ := m_b1 hJ
  refine Rn_call srtL 614 rfl rfl rfl ⟨Nat.le_of_ble_eq_true rfl, Nat.le_of_ble_eq_true rfl, rfl, Nat.le_of_ble_eq_true rfl⟩ (k_X11_saw (d + 129) h241) (show Rn N xs (d + 132) meL 965 [some (.ref 1000000), some (.ref 0), some (.ref 88), some (.int x3)] [(.int v242)] (SH, s) r from ?_)
  refine Rn_sq srtL 615 6 (pc' := 971) (ls' := [some (.ref 1000000), some (.ref 0), some (.ref 88), some (.int x3)]) (st' := [(.int (x3 + (ci 1))), (.ref 1000000), (.ref 88)]) (h1 := (SH, s)) rfl ?_
  obtain ⟨h243, hJ⟩ := m_gn hJ
  refine Rn_ev srtL 621 rfl rfl rfl (op_iaL h_N h_X h243) ?_
  refine Rn_sq srtL 622 4 (pc' := 976) (ls' := [some (.ref 1000000), some (.ref 0), some (.ref 88), some (.int x3)]) (st' := [(.int (x3 + (ci 2))), (.ref 1000000), (.int (Lx (x3 + (ci 1)).toNatClampNeg)), (.ref 88)]) (h1 := (SH, s)) rfl ?_
  obtain ⟨h244, hJ⟩ := m_gn hJ
  refine Rn_ev srtL 626 rfl rfl rfl (op_iaL h_N h_X h244) ?_
  obtain ⟨v246, h245, hJ⟩ := m_b1 hJ
  refine Rn_call srtL 627 rfl rfl rfl ⟨Nat.le_of_ble_eq_true rfl, Nat.le_of_ble_eq_true rfl, rfl, Nat.le_of_ble_eq_true rfl⟩ (k_X12_saw (d + 129) h245) (show Rn N xs (d + 132) meL 980 [some (.ref 1000000), some (.ref 0), some (.ref 88), some (.int x3)] [(.int v246)] (SH, s) r from ?_)
  refine Rn_sq srtL 628 2 (pc' := 1586) (ls' := [some (.ref 1000000), some (.ref 0), some (.ref 88), some (.int x3)]) (st' := []) (h1 := (SH, s)) rfl ?_
  exact (k_law_1586 LN Lx d h_N h_X hJ hC)
def F_law_984 (LN : Nat) (Lx : Nat → Int32) (x3 : Int32) (s : mG) : Option ((Int32 × mG) ⊕ (Int32 × mG)) :=
  if (x3 + (ci 1)) < 0 ∨ LN ≤ (x3 + (ci 1)).toNatClampNeg then none else
  if (x3 + (ci 2)) < 0 ∨ LN ≤ (x3 + (ci 2)).toNatClampNeg then none else
  b1 (F_X11_by s (Lx (x3 + (ci 1)).toNatClampNeg) (Lx (x3 + (ci 2)).toNatClampNeg)) fun v251 =>
  if (x3 + (ci 1)) < 0 ∨ LN ≤ (x3 + (ci 1)).toNatClampNeg then none else
  if (x3 + (ci 2)) < 0 ∨ LN ≤ (x3 + (ci 2)).toNatClampNeg then none else
  b1 (F_X12_by s (Lx (x3 + (ci 1)).toNatClampNeg) (Lx (x3 + (ci 2)).toNatClampNeg)) fun v255 =>
  F_law_1586 LN Lx x3 s
set_option maxRecDepth 60000 in
theorem k_law_984 {N : Nat} {xs : Nat → Int32} (LN : Nat) (Lx : Nat → Int32) (d : Nat) (h_N : N = LN) (h_X : xs = Lx) {r : Option Value × mH} {s : mG} {x3 : Int32} {τ : ((Int32 × mG) ⊕ (Int32 × mG))} (hJ : F_law_984 LN Lx x3 s = some τ) (hC : (C_law_18 N xs LN Lx d r (fun τ => r = (some (.int τ.1), (SH, τ.2)))) τ) : Rn N xs (d + 132) meL 984 [some (.ref 1000000), some (.ref 0), some (.ref 88), some (.int x3)] [] (SH, s) r := by
  unfold F_law_984 at hJ
  refine Rn_sq srtL 630 5 (pc' := 989) (ls' := [some (.ref 1000000), some (.ref 0), some (.ref 88), some (.int x3)]) (st' := [(.int (x3 + (ci 1))), (.ref 1000000), (.ref 0)]) (h1 := (SH, s)) rfl ?_
  obtain ⟨h248, hJ⟩ := m_gn hJ
  refine Rn_ev srtL 635 rfl rfl rfl (op_iaL h_N h_X h248) ?_
  refine Rn_sq srtL 636 4 (pc' := 994) (ls' := [some (.ref 1000000), some (.ref 0), some (.ref 88), some (.int x3)]) (st' := [(.int (x3 + (ci 2))), (.ref 1000000), (.int (Lx (x3 + (ci 1)).toNatClampNeg)), (.ref 0)]) (h1 := (SH, s)) rfl ?_
  obtain ⟨h249, hJ⟩ := m_gn hJ
  refine Rn_ev srtL 640 rfl rfl rfl (op_iaL h_N h_X h249) ?_
  obtain ⟨v251, h250, hJ⟩ := m_b1 hJ
  refine Rn_call srtL 641 rfl rfl rfl ⟨Nat.le_of_ble_eq_true rfl, Nat.le_of_ble_eq_true rfl, rfl, Nat.le_of_ble_eq_true rfl⟩ (k_X11_by (d + 129) h250) (show Rn N xs (d + 132) meL 998 [some (.ref 1000000), some (.ref 0), some (.ref 88), some (.int x3)] [(.int v251)] (SH, s) r from ?_)
  refine Rn_sq srtL 642 6 (pc' := 1004) (ls' := [some (.ref 1000000), some (.ref 0), some (.ref 88), some (.int x3)]) (st' := [(.int (x3 + (ci 1))), (.ref 1000000), (.ref 88)]) (h1 := (SH, s)) rfl ?_
  obtain ⟨h252, hJ⟩ := m_gn hJ
  refine Rn_ev srtL 648 rfl rfl rfl (op_iaL h_N h_X h252) ?_
  refine Rn_sq srtL 649 4 (pc' := 1009) (ls' := [some (.ref 1000000), some (.ref 0), some (.ref 88), some (.int x3)]) (st' := [(.int (x3 + (ci 2))), (.ref 1000000), (.int (Lx (x3 + (ci 1)).toNatClampNeg)), (.ref 88)]) (h1 := (SH, s)) rfl ?_
  obtain ⟨h253, hJ⟩ := m_gn hJ
  refine Rn_ev srtL 653 rfl rfl rfl (op_iaL h_N h_X h253) ?_
  obtain ⟨v255, h254, hJ⟩ := m_b1 hJ
  refine Rn_call srtL 654 rfl rfl rfl ⟨Nat.le_of_ble_eq_true rfl, Nat.le_of_ble_eq_true rfl, rfl, Nat.le_of_ble_eq_true rfl⟩ (k_X12_by (d + 130) h254) (show Rn N xs (d + 132) meL 1013 [some (.ref 1000000), some (.ref 0), some (.ref 88), some (.int x3)] [(.int v255)] (SH, s) r from ?_)
  refine Rn_sq srtL 655 2 (pc' := 1586) (ls' := [some (.ref 1000000), some (.ref 0), some (.ref 88), some (.int x3)]) (st' := []) (h1 := (SH, s)) rfl ?_
  exact (k_law_1586 LN Lx d h_N h_X hJ hC)
def F_law_1017 (LN : Nat) (Lx : Nat → Int32) (x3 : Int32) (s : mG) : Option ((Int32 × mG) ⊕ (Int32 × mG)) :=
  if (x3 + (ci 1)) < 0 ∨ LN ≤ (x3 + (ci 1)).toNatClampNeg then none else
  if (x3 + (ci 2)) < 0 ∨ LN ≤ (x3 + (ci 2)).toNatClampNeg then none else
  if (x3 + (ci 3)) < 0 ∨ LN ≤ (x3 + (ci 3)).toNatClampNeg then none else
  b2 (F_X11_caller (Lx (x3 + (ci 1)).toNatClampNeg) (Lx (x3 + (ci 2)).toNatClampNeg) (Lx (x3 + (ci 3)).toNatClampNeg) s) fun v262 s261 =>
  if (x3 + (ci 1)) < 0 ∨ LN ≤ (x3 + (ci 1)).toNatClampNeg then none else
  if (x3 + (ci 2)) < 0 ∨ LN ≤ (x3 + (ci 2)).toNatClampNeg then none else
  if (x3 + (ci 3)) < 0 ∨ LN ≤ (x3 + (ci 3)).toNatClampNeg then none else
  b2 (F_X12_caller (Lx (x3 + (ci 1)).toNatClampNeg) (Lx (x3 + (ci 2)).toNatClampNeg) (Lx (x3 + (ci 3)).toNatClampNeg) s261) fun v268 s267 =>
  F_law_1586 LN Lx x3 s267
set_option maxRecDepth 60000 in
theorem k_law_1017 {N : Nat} {xs : Nat → Int32} (LN : Nat) (Lx : Nat → Int32) (d : Nat) (h_N : N = LN) (h_X : xs = Lx) {r : Option Value × mH} {s : mG} {x3 : Int32} {τ : ((Int32 × mG) ⊕ (Int32 × mG))} (hJ : F_law_1017 LN Lx x3 s = some τ) (hC : (C_law_18 N xs LN Lx d r (fun τ => r = (some (.int τ.1), (SH, τ.2)))) τ) : Rn N xs (d + 132) meL 1017 [some (.ref 1000000), some (.ref 0), some (.ref 88), some (.int x3)] [] (SH, s) r := by
  unfold F_law_1017 at hJ
  refine Rn_sq srtL 657 5 (pc' := 1022) (ls' := [some (.ref 1000000), some (.ref 0), some (.ref 88), some (.int x3)]) (st' := [(.int (x3 + (ci 1))), (.ref 1000000), (.ref 0)]) (h1 := (SH, s)) rfl ?_
  obtain ⟨h257, hJ⟩ := m_gn hJ
  refine Rn_ev srtL 662 rfl rfl rfl (op_iaL h_N h_X h257) ?_
  refine Rn_sq srtL 663 4 (pc' := 1027) (ls' := [some (.ref 1000000), some (.ref 0), some (.ref 88), some (.int x3)]) (st' := [(.int (x3 + (ci 2))), (.ref 1000000), (.int (Lx (x3 + (ci 1)).toNatClampNeg)), (.ref 0)]) (h1 := (SH, s)) rfl ?_
  obtain ⟨h258, hJ⟩ := m_gn hJ
  refine Rn_ev srtL 667 rfl rfl rfl (op_iaL h_N h_X h258) ?_
  refine Rn_sq srtL 668 4 (pc' := 1032) (ls' := [some (.ref 1000000), some (.ref 0), some (.ref 88), some (.int x3)]) (st' := [(.int (x3 + (ci 3))), (.ref 1000000), (.int (Lx (x3 + (ci 2)).toNatClampNeg)), (.int (Lx (x3 + (ci 1)).toNatClampNeg)), (.ref 0)]) (h1 := (SH, s)) rfl ?_
  obtain ⟨h259, hJ⟩ := m_gn hJ
  refine Rn_ev srtL 672 rfl rfl rfl (op_iaL h_N h_X h259) ?_
  obtain ⟨v262, s261, h260, hJ⟩ := m_b2 hJ
  refine Rn_call srtL 673 rfl rfl rfl ⟨Nat.le_of_ble_eq_true rfl, Nat.le_of_ble_eq_true rfl, rfl, Nat.le_of_ble_eq_true rfl⟩ (k_X11_caller (d + 129) h260) (show Rn N xs (d + 132) meL 1036 [some (.ref 1000000), some (.ref 0), some (.ref 88), some (.int x3)] [(.int v262)] (SH, s261) r from ?_)
  refine Rn_sq srtL 674 6 (pc' := 1042) (ls' := [some (.ref 1000000), some (.ref 0), some (.ref 88), some (.int x3)]) (st' := [(.int (x3 + (ci 1))), (.ref 1000000), (.ref 88)]) (h1 := (SH, s261)) rfl ?_
  obtain ⟨h263, hJ⟩ := m_gn hJ
  refine Rn_ev srtL 680 rfl rfl rfl (op_iaL h_N h_X h263) ?_
  refine Rn_sq srtL 681 4 (pc' := 1047) (ls' := [some (.ref 1000000), some (.ref 0), some (.ref 88), some (.int x3)]) (st' := [(.int (x3 + (ci 2))), (.ref 1000000), (.int (Lx (x3 + (ci 1)).toNatClampNeg)), (.ref 88)]) (h1 := (SH, s261)) rfl ?_
  obtain ⟨h264, hJ⟩ := m_gn hJ
  refine Rn_ev srtL 685 rfl rfl rfl (op_iaL h_N h_X h264) ?_
  refine Rn_sq srtL 686 4 (pc' := 1052) (ls' := [some (.ref 1000000), some (.ref 0), some (.ref 88), some (.int x3)]) (st' := [(.int (x3 + (ci 3))), (.ref 1000000), (.int (Lx (x3 + (ci 2)).toNatClampNeg)), (.int (Lx (x3 + (ci 1)).toNatClampNeg)), (.ref 88)]) (h1 := (SH, s261)) rfl ?_
  obtain ⟨h265, hJ⟩ := m_gn hJ
  refine Rn_ev srtL 690 rfl rfl rfl (op_iaL h_N h_X h265) ?_
  obtain ⟨v268, s267, h266, hJ⟩ := m_b2 hJ
  refine Rn_call srtL 691 rfl rfl rfl ⟨Nat.le_of_ble_eq_true rfl, Nat.le_of_ble_eq_true rfl, rfl, Nat.le_of_ble_eq_true rfl⟩ (k_X12_caller (d + 129) h266) (show Rn N xs (d + 132) meL 1056 [some (.ref 1000000), some (.ref 0), some (.ref 88), some (.int x3)] [(.int v268)] (SH, s267) r from ?_)
  refine Rn_sq srtL 692 2 (pc' := 1586) (ls' := [some (.ref 1000000), some (.ref 0), some (.ref 88), some (.int x3)]) (st' := []) (h1 := (SH, s267)) rfl ?_
  exact (k_law_1586 LN Lx d h_N h_X hJ hC)
def F_law_1060 (LN : Nat) (Lx : Nat → Int32) (x3 : Int32) (s : mG) : Option ((Int32 × mG) ⊕ (Int32 × mG)) :=
  if (x3 + (ci 1)) < 0 ∨ LN ≤ (x3 + (ci 1)).toNatClampNeg then none else
  b2 (F_X11_said (Lx (x3 + (ci 1)).toNatClampNeg) s) fun v273 s272 =>
  if (x3 + (ci 1)) < 0 ∨ LN ≤ (x3 + (ci 1)).toNatClampNeg then none else
  b2 (F_X12_said (Lx (x3 + (ci 1)).toNatClampNeg) s272) fun v277 s276 =>
  F_law_1586 LN Lx x3 s276
set_option maxRecDepth 60000 in
theorem k_law_1060 {N : Nat} {xs : Nat → Int32} (LN : Nat) (Lx : Nat → Int32) (d : Nat) (h_N : N = LN) (h_X : xs = Lx) {r : Option Value × mH} {s : mG} {x3 : Int32} {τ : ((Int32 × mG) ⊕ (Int32 × mG))} (hJ : F_law_1060 LN Lx x3 s = some τ) (hC : (C_law_18 N xs LN Lx d r (fun τ => r = (some (.int τ.1), (SH, τ.2)))) τ) : Rn N xs (d + 132) meL 1060 [some (.ref 1000000), some (.ref 0), some (.ref 88), some (.int x3)] [] (SH, s) r := by
  unfold F_law_1060 at hJ
  refine Rn_sq srtL 694 5 (pc' := 1065) (ls' := [some (.ref 1000000), some (.ref 0), some (.ref 88), some (.int x3)]) (st' := [(.int (x3 + (ci 1))), (.ref 1000000), (.ref 0)]) (h1 := (SH, s)) rfl ?_
  obtain ⟨h270, hJ⟩ := m_gn hJ
  refine Rn_ev srtL 699 rfl rfl rfl (op_iaL h_N h_X h270) ?_
  obtain ⟨v273, s272, h271, hJ⟩ := m_b2 hJ
  refine Rn_call srtL 700 rfl rfl rfl ⟨Nat.le_of_ble_eq_true rfl, Nat.le_of_ble_eq_true rfl, rfl, Nat.le_of_ble_eq_true rfl⟩ (k_X11_said (d + 125) h271) (show Rn N xs (d + 132) meL 1069 [some (.ref 1000000), some (.ref 0), some (.ref 88), some (.int x3)] [(.int v273)] (SH, s272) r from ?_)
  refine Rn_sq srtL 701 6 (pc' := 1075) (ls' := [some (.ref 1000000), some (.ref 0), some (.ref 88), some (.int x3)]) (st' := [(.int (x3 + (ci 1))), (.ref 1000000), (.ref 88)]) (h1 := (SH, s272)) rfl ?_
  obtain ⟨h274, hJ⟩ := m_gn hJ
  refine Rn_ev srtL 707 rfl rfl rfl (op_iaL h_N h_X h274) ?_
  obtain ⟨v277, s276, h275, hJ⟩ := m_b2 hJ
  refine Rn_call srtL 708 rfl rfl rfl ⟨Nat.le_of_ble_eq_true rfl, Nat.le_of_ble_eq_true rfl, rfl, Nat.le_of_ble_eq_true rfl⟩ (k_X12_said (d + 124) h275) (show Rn N xs (d + 132) meL 1079 [some (.ref 1000000), some (.ref 0), some (.ref 88), some (.int x3)] [(.int v277)] (SH, s276) r from ?_)
  refine Rn_sq srtL 709 2 (pc' := 1586) (ls' := [some (.ref 1000000), some (.ref 0), some (.ref 88), some (.int x3)]) (st' := []) (h1 := (SH, s276)) rfl ?_
  exact (k_law_1586 LN Lx d h_N h_X hJ hC)
def F_law_1083 (LN : Nat) (Lx : Nat → Int32) (x3 : Int32) (s : mG) : Option ((Int32 × mG) ⊕ (Int32 × mG)) :=
  if (x3 + (ci 1)) < 0 ∨ LN ≤ (x3 + (ci 1)).toNatClampNeg then none else
  if (x3 + (ci 2)) < 0 ∨ LN ≤ (x3 + (ci 2)).toNatClampNeg then none else
  b2 (F_X11_looksAt (Lx (x3 + (ci 1)).toNatClampNeg) (Lx (x3 + (ci 2)).toNatClampNeg) s) fun v283 s282 =>
  if (x3 + (ci 1)) < 0 ∨ LN ≤ (x3 + (ci 1)).toNatClampNeg then none else
  if (x3 + (ci 2)) < 0 ∨ LN ≤ (x3 + (ci 2)).toNatClampNeg then none else
  b2 (F_X12_looksAt (Lx (x3 + (ci 1)).toNatClampNeg) (Lx (x3 + (ci 2)).toNatClampNeg) s282) fun v288 s287 =>
  F_law_1586 LN Lx x3 s287
set_option maxRecDepth 60000 in
theorem k_law_1083 {N : Nat} {xs : Nat → Int32} (LN : Nat) (Lx : Nat → Int32) (d : Nat) (h_N : N = LN) (h_X : xs = Lx) {r : Option Value × mH} {s : mG} {x3 : Int32} {τ : ((Int32 × mG) ⊕ (Int32 × mG))} (hJ : F_law_1083 LN Lx x3 s = some τ) (hC : (C_law_18 N xs LN Lx d r (fun τ => r = (some (.int τ.1), (SH, τ.2)))) τ) : Rn N xs (d + 132) meL 1083 [some (.ref 1000000), some (.ref 0), some (.ref 88), some (.int x3)] [] (SH, s) r := by
  unfold F_law_1083 at hJ
  refine Rn_sq srtL 711 5 (pc' := 1088) (ls' := [some (.ref 1000000), some (.ref 0), some (.ref 88), some (.int x3)]) (st' := [(.int (x3 + (ci 1))), (.ref 1000000), (.ref 0)]) (h1 := (SH, s)) rfl ?_
  obtain ⟨h279, hJ⟩ := m_gn hJ
  refine Rn_ev srtL 716 rfl rfl rfl (op_iaL h_N h_X h279) ?_
  refine Rn_sq srtL 717 4 (pc' := 1093) (ls' := [some (.ref 1000000), some (.ref 0), some (.ref 88), some (.int x3)]) (st' := [(.int (x3 + (ci 2))), (.ref 1000000), (.int (Lx (x3 + (ci 1)).toNatClampNeg)), (.ref 0)]) (h1 := (SH, s)) rfl ?_
  obtain ⟨h280, hJ⟩ := m_gn hJ
  refine Rn_ev srtL 721 rfl rfl rfl (op_iaL h_N h_X h280) ?_
  obtain ⟨v283, s282, h281, hJ⟩ := m_b2 hJ
  refine Rn_call srtL 722 rfl rfl rfl ⟨Nat.le_of_ble_eq_true rfl, Nat.le_of_ble_eq_true rfl, rfl, Nat.le_of_ble_eq_true rfl⟩ (k_X11_looksAt (d + 126) h281) (show Rn N xs (d + 132) meL 1097 [some (.ref 1000000), some (.ref 0), some (.ref 88), some (.int x3)] [(.int v283)] (SH, s282) r from ?_)
  refine Rn_sq srtL 723 6 (pc' := 1103) (ls' := [some (.ref 1000000), some (.ref 0), some (.ref 88), some (.int x3)]) (st' := [(.int (x3 + (ci 1))), (.ref 1000000), (.ref 88)]) (h1 := (SH, s282)) rfl ?_
  obtain ⟨h284, hJ⟩ := m_gn hJ
  refine Rn_ev srtL 729 rfl rfl rfl (op_iaL h_N h_X h284) ?_
  refine Rn_sq srtL 730 4 (pc' := 1108) (ls' := [some (.ref 1000000), some (.ref 0), some (.ref 88), some (.int x3)]) (st' := [(.int (x3 + (ci 2))), (.ref 1000000), (.int (Lx (x3 + (ci 1)).toNatClampNeg)), (.ref 88)]) (h1 := (SH, s282)) rfl ?_
  obtain ⟨h285, hJ⟩ := m_gn hJ
  refine Rn_ev srtL 734 rfl rfl rfl (op_iaL h_N h_X h285) ?_
  obtain ⟨v288, s287, h286, hJ⟩ := m_b2 hJ
  refine Rn_call srtL 735 rfl rfl rfl ⟨Nat.le_of_ble_eq_true rfl, Nat.le_of_ble_eq_true rfl, rfl, Nat.le_of_ble_eq_true rfl⟩ (k_X12_looksAt (d + 125) h286) (show Rn N xs (d + 132) meL 1112 [some (.ref 1000000), some (.ref 0), some (.ref 88), some (.int x3)] [(.int v288)] (SH, s287) r from ?_)
  refine Rn_sq srtL 736 2 (pc' := 1586) (ls' := [some (.ref 1000000), some (.ref 0), some (.ref 88), some (.int x3)]) (st' := []) (h1 := (SH, s287)) rfl ?_
  exact (k_law_1586 LN Lx d h_N h_X hJ hC)
def F_law_1116 (LN : Nat) (Lx : Nat → Int32) (x3 : Int32) (s : mG) : Option ((Int32 × mG) ⊕ (Int32 × mG)) :=
  if (x3 + (ci 1)) < 0 ∨ LN ≤ (x3 + (ci 1)).toNatClampNeg then none else
  b2 (F_X11_pair (Lx (x3 + (ci 1)).toNatClampNeg) s) fun v293 s292 =>
  if (x3 + (ci 1)) < 0 ∨ LN ≤ (x3 + (ci 1)).toNatClampNeg then none else
  b2 (F_X12_pair (Lx (x3 + (ci 1)).toNatClampNeg) s292) fun v297 s296 =>
  F_law_1586 LN Lx x3 s296
set_option maxRecDepth 60000 in
theorem k_law_1116 {N : Nat} {xs : Nat → Int32} (LN : Nat) (Lx : Nat → Int32) (d : Nat) (h_N : N = LN) (h_X : xs = Lx) {r : Option Value × mH} {s : mG} {x3 : Int32} {τ : ((Int32 × mG) ⊕ (Int32 × mG))} (hJ : F_law_1116 LN Lx x3 s = some τ) (hC : (C_law_18 N xs LN Lx d r (fun τ => r = (some (.int τ.1), (SH, τ.2)))) τ) : Rn N xs (d + 132) meL 1116 [some (.ref 1000000), some (.ref 0), some (.ref 88), some (.int x3)] [] (SH, s) r := by
  unfold F_law_1116 at hJ
  refine Rn_sq srtL 738 5 (pc' := 1121) (ls' := [some (.ref 1000000), some (.ref 0), some (.ref 88), some (.int x3)]) (st' := [(.int (x3 + (ci 1))), (.ref 1000000), (.ref 0)]) (h1 := (SH, s)) rfl ?_
  obtain ⟨h290, hJ⟩ := m_gn hJ
  refine Rn_ev srtL 743 rfl rfl rfl (op_iaL h_N h_X h290) ?_
  obtain ⟨v293, s292, h291, hJ⟩ := m_b2 hJ
  refine Rn_call srtL 744 rfl rfl rfl ⟨Nat.le_of_ble_eq_true rfl, Nat.le_of_ble_eq_true rfl, rfl, Nat.le_of_ble_eq_true rfl⟩ (k_X11_pair (d + 125) h291) (show Rn N xs (d + 132) meL 1125 [some (.ref 1000000), some (.ref 0), some (.ref 88), some (.int x3)] [(.int v293)] (SH, s292) r from ?_)
  refine Rn_sq srtL 745 6 (pc' := 1131) (ls' := [some (.ref 1000000), some (.ref 0), some (.ref 88), some (.int x3)]) (st' := [(.int (x3 + (ci 1))), (.ref 1000000), (.ref 88)]) (h1 := (SH, s292)) rfl ?_
  obtain ⟨h294, hJ⟩ := m_gn hJ
  refine Rn_ev srtL 751 rfl rfl rfl (op_iaL h_N h_X h294) ?_
  obtain ⟨v297, s296, h295, hJ⟩ := m_b2 hJ
  refine Rn_call srtL 752 rfl rfl rfl ⟨Nat.le_of_ble_eq_true rfl, Nat.le_of_ble_eq_true rfl, rfl, Nat.le_of_ble_eq_true rfl⟩ (k_X12_pair (d + 125) h295) (show Rn N xs (d + 132) meL 1135 [some (.ref 1000000), some (.ref 0), some (.ref 88), some (.int x3)] [(.int v297)] (SH, s296) r from ?_)
  refine Rn_sq srtL 753 2 (pc' := 1586) (ls' := [some (.ref 1000000), some (.ref 0), some (.ref 88), some (.int x3)]) (st' := []) (h1 := (SH, s296)) rfl ?_
  exact (k_law_1586 LN Lx d h_N h_X hJ hC)
def F_law_1139 (LN : Nat) (Lx : Nat → Int32) (x3 : Int32) (s : mG) : Option ((Int32 × mG) ⊕ (Int32 × mG)) :=
  if (x3 + (ci 1)) < 0 ∨ LN ≤ (x3 + (ci 1)).toNatClampNeg then none else
  b1 (F_X11_ring s (Lx (x3 + (ci 1)).toNatClampNeg)) fun v301 =>
  if (x3 + (ci 1)) < 0 ∨ LN ≤ (x3 + (ci 1)).toNatClampNeg then none else
  b1 (F_X12_ring s (Lx (x3 + (ci 1)).toNatClampNeg)) fun v304 =>
  F_law_1586 LN Lx x3 s
set_option maxRecDepth 60000 in
theorem k_law_1139 {N : Nat} {xs : Nat → Int32} (LN : Nat) (Lx : Nat → Int32) (d : Nat) (h_N : N = LN) (h_X : xs = Lx) {r : Option Value × mH} {s : mG} {x3 : Int32} {τ : ((Int32 × mG) ⊕ (Int32 × mG))} (hJ : F_law_1139 LN Lx x3 s = some τ) (hC : (C_law_18 N xs LN Lx d r (fun τ => r = (some (.int τ.1), (SH, τ.2)))) τ) : Rn N xs (d + 132) meL 1139 [some (.ref 1000000), some (.ref 0), some (.ref 88), some (.int x3)] [] (SH, s) r := by
  unfold F_law_1139 at hJ
  refine Rn_sq srtL 755 5 (pc' := 1144) (ls' := [some (.ref 1000000), some (.ref 0), some (.ref 88), some (.int x3)]) (st' := [(.int (x3 + (ci 1))), (.ref 1000000), (.ref 0)]) (h1 := (SH, s)) rfl ?_
  obtain ⟨h299, hJ⟩ := m_gn hJ
  refine Rn_ev srtL 760 rfl rfl rfl (op_iaL h_N h_X h299) ?_
  obtain ⟨v301, h300, hJ⟩ := m_b1 hJ
  refine Rn_call srtL 761 rfl rfl rfl ⟨Nat.le_of_ble_eq_true rfl, Nat.le_of_ble_eq_true rfl, rfl, Nat.le_of_ble_eq_true rfl⟩ (k_X11_ring (d + 128) h300) (show Rn N xs (d + 132) meL 1148 [some (.ref 1000000), some (.ref 0), some (.ref 88), some (.int x3)] [(.int v301)] (SH, s) r from ?_)
  refine Rn_sq srtL 762 6 (pc' := 1154) (ls' := [some (.ref 1000000), some (.ref 0), some (.ref 88), some (.int x3)]) (st' := [(.int (x3 + (ci 1))), (.ref 1000000), (.ref 88)]) (h1 := (SH, s)) rfl ?_
  obtain ⟨h302, hJ⟩ := m_gn hJ
  refine Rn_ev srtL 768 rfl rfl rfl (op_iaL h_N h_X h302) ?_
  obtain ⟨v304, h303, hJ⟩ := m_b1 hJ
  refine Rn_call srtL 769 rfl rfl rfl ⟨Nat.le_of_ble_eq_true rfl, Nat.le_of_ble_eq_true rfl, rfl, Nat.le_of_ble_eq_true rfl⟩ (k_X12_ring (d + 129) h303) (show Rn N xs (d + 132) meL 1158 [some (.ref 1000000), some (.ref 0), some (.ref 88), some (.int x3)] [(.int v304)] (SH, s) r from ?_)
  refine Rn_sq srtL 770 2 (pc' := 1586) (ls' := [some (.ref 1000000), some (.ref 0), some (.ref 88), some (.int x3)]) (st' := []) (h1 := (SH, s)) rfl ?_
  exact (k_law_1586 LN Lx d h_N h_X hJ hC)
def F_law_1162 (LN : Nat) (Lx : Nat → Int32) (x3 : Int32) (s : mG) : Option ((Int32 × mG) ⊕ (Int32 × mG)) :=
  if (x3 + (ci 1)) < 0 ∨ LN ≤ (x3 + (ci 1)).toNatClampNeg then none else
  b2 (F_X11_busy (Lx (x3 + (ci 1)).toNatClampNeg) s) fun v309 s308 =>
  if (x3 + (ci 1)) < 0 ∨ LN ≤ (x3 + (ci 1)).toNatClampNeg then none else
  b2 (F_X12_busy (Lx (x3 + (ci 1)).toNatClampNeg) s308) fun v313 s312 =>
  F_law_1586 LN Lx x3 s312
set_option maxRecDepth 60000 in
theorem k_law_1162 {N : Nat} {xs : Nat → Int32} (LN : Nat) (Lx : Nat → Int32) (d : Nat) (h_N : N = LN) (h_X : xs = Lx) {r : Option Value × mH} {s : mG} {x3 : Int32} {τ : ((Int32 × mG) ⊕ (Int32 × mG))} (hJ : F_law_1162 LN Lx x3 s = some τ) (hC : (C_law_18 N xs LN Lx d r (fun τ => r = (some (.int τ.1), (SH, τ.2)))) τ) : Rn N xs (d + 132) meL 1162 [some (.ref 1000000), some (.ref 0), some (.ref 88), some (.int x3)] [] (SH, s) r := by
  unfold F_law_1162 at hJ
  refine Rn_sq srtL 772 5 (pc' := 1167) (ls' := [some (.ref 1000000), some (.ref 0), some (.ref 88), some (.int x3)]) (st' := [(.int (x3 + (ci 1))), (.ref 1000000), (.ref 0)]) (h1 := (SH, s)) rfl ?_
  obtain ⟨h306, hJ⟩ := m_gn hJ
  refine Rn_ev srtL 777 rfl rfl rfl (op_iaL h_N h_X h306) ?_
  obtain ⟨v309, s308, h307, hJ⟩ := m_b2 hJ
  refine Rn_call srtL 778 rfl rfl rfl ⟨Nat.le_of_ble_eq_true rfl, Nat.le_of_ble_eq_true rfl, rfl, Nat.le_of_ble_eq_true rfl⟩ (k_X11_busy (d + 126) h307) (show Rn N xs (d + 132) meL 1171 [some (.ref 1000000), some (.ref 0), some (.ref 88), some (.int x3)] [(.int v309)] (SH, s308) r from ?_)
  refine Rn_sq srtL 779 6 (pc' := 1177) (ls' := [some (.ref 1000000), some (.ref 0), some (.ref 88), some (.int x3)]) (st' := [(.int (x3 + (ci 1))), (.ref 1000000), (.ref 88)]) (h1 := (SH, s308)) rfl ?_
  obtain ⟨h310, hJ⟩ := m_gn hJ
  refine Rn_ev srtL 785 rfl rfl rfl (op_iaL h_N h_X h310) ?_
  obtain ⟨v313, s312, h311, hJ⟩ := m_b2 hJ
  refine Rn_call srtL 786 rfl rfl rfl ⟨Nat.le_of_ble_eq_true rfl, Nat.le_of_ble_eq_true rfl, rfl, Nat.le_of_ble_eq_true rfl⟩ (k_X12_busy (d + 126) h311) (show Rn N xs (d + 132) meL 1181 [some (.ref 1000000), some (.ref 0), some (.ref 88), some (.int x3)] [(.int v313)] (SH, s312) r from ?_)
  refine Rn_sq srtL 787 2 (pc' := 1586) (ls' := [some (.ref 1000000), some (.ref 0), some (.ref 88), some (.int x3)]) (st' := []) (h1 := (SH, s312)) rfl ?_
  exact (k_law_1586 LN Lx d h_N h_X hJ hC)
def F_law_1185 (LN : Nat) (Lx : Nat → Int32) (x3 : Int32) (s : mG) : Option ((Int32 × mG) ⊕ (Int32 × mG)) :=
  b2 (F_X11_expect s) fun v317 s316 =>
  b2 (F_X12_expect s316) fun v320 s319 =>
  F_law_1586 LN Lx x3 s319
set_option maxRecDepth 60000 in
theorem k_law_1185 {N : Nat} {xs : Nat → Int32} (LN : Nat) (Lx : Nat → Int32) (d : Nat) (h_N : N = LN) (h_X : xs = Lx) {r : Option Value × mH} {s : mG} {x3 : Int32} {τ : ((Int32 × mG) ⊕ (Int32 × mG))} (hJ : F_law_1185 LN Lx x3 s = some τ) (hC : (C_law_18 N xs LN Lx d r (fun τ => r = (some (.int τ.1), (SH, τ.2)))) τ) : Rn N xs (d + 132) meL 1185 [some (.ref 1000000), some (.ref 0), some (.ref 88), some (.int x3)] [] (SH, s) r := by
  unfold F_law_1185 at hJ
  refine Rn_sq srtL 789 1 (pc' := 1186) (ls' := [some (.ref 1000000), some (.ref 0), some (.ref 88), some (.int x3)]) (st' := [(.ref 0)]) (h1 := (SH, s)) rfl ?_
  obtain ⟨v317, s316, h315, hJ⟩ := m_b2 hJ
  refine Rn_call srtL 790 rfl rfl rfl ⟨Nat.le_of_ble_eq_true rfl, Nat.le_of_ble_eq_true rfl, rfl, Nat.le_of_ble_eq_true rfl⟩ (k_X11_expect (d + 126) h315) (show Rn N xs (d + 132) meL 1189 [some (.ref 1000000), some (.ref 0), some (.ref 88), some (.int x3)] [(.int v317)] (SH, s316) r from ?_)
  refine Rn_sq srtL 791 2 (pc' := 1191) (ls' := [some (.ref 1000000), some (.ref 0), some (.ref 88), some (.int x3)]) (st' := [(.ref 88)]) (h1 := (SH, s316)) rfl ?_
  obtain ⟨v320, s319, h318, hJ⟩ := m_b2 hJ
  refine Rn_call srtL 793 rfl rfl rfl ⟨Nat.le_of_ble_eq_true rfl, Nat.le_of_ble_eq_true rfl, rfl, Nat.le_of_ble_eq_true rfl⟩ (k_X12_expect (d + 126) h318) (show Rn N xs (d + 132) meL 1194 [some (.ref 1000000), some (.ref 0), some (.ref 88), some (.int x3)] [(.int v320)] (SH, s319) r from ?_)
  refine Rn_sq srtL 794 2 (pc' := 1586) (ls' := [some (.ref 1000000), some (.ref 0), some (.ref 88), some (.int x3)]) (st' := []) (h1 := (SH, s319)) rfl ?_
  exact (k_law_1586 LN Lx d h_N h_X hJ hC)
def F_law_1198 (LN : Nat) (Lx : Nat → Int32) (x3 : Int32) (s : mG) : Option ((Int32 × mG) ⊕ (Int32 × mG)) :=
  if (x3 + (ci 1)) < 0 ∨ LN ≤ (x3 + (ci 1)).toNatClampNeg then none else
  b2 (F_X11_lack (Lx (x3 + (ci 1)).toNatClampNeg) s) fun v325 s324 =>
  if (x3 + (ci 1)) < 0 ∨ LN ≤ (x3 + (ci 1)).toNatClampNeg then none else
  b2 (F_X12_lack (Lx (x3 + (ci 1)).toNatClampNeg) s324) fun v329 s328 =>
  F_law_1586 LN Lx x3 s328
set_option maxRecDepth 60000 in
theorem k_law_1198 {N : Nat} {xs : Nat → Int32} (LN : Nat) (Lx : Nat → Int32) (d : Nat) (h_N : N = LN) (h_X : xs = Lx) {r : Option Value × mH} {s : mG} {x3 : Int32} {τ : ((Int32 × mG) ⊕ (Int32 × mG))} (hJ : F_law_1198 LN Lx x3 s = some τ) (hC : (C_law_18 N xs LN Lx d r (fun τ => r = (some (.int τ.1), (SH, τ.2)))) τ) : Rn N xs (d + 132) meL 1198 [some (.ref 1000000), some (.ref 0), some (.ref 88), some (.int x3)] [] (SH, s) r := by
  unfold F_law_1198 at hJ
  refine Rn_sq srtL 796 5 (pc' := 1203) (ls' := [some (.ref 1000000), some (.ref 0), some (.ref 88), some (.int x3)]) (st' := [(.int (x3 + (ci 1))), (.ref 1000000), (.ref 0)]) (h1 := (SH, s)) rfl ?_
  obtain ⟨h322, hJ⟩ := m_gn hJ
  refine Rn_ev srtL 801 rfl rfl rfl (op_iaL h_N h_X h322) ?_
  obtain ⟨v325, s324, h323, hJ⟩ := m_b2 hJ
  refine Rn_call srtL 802 rfl rfl rfl ⟨Nat.le_of_ble_eq_true rfl, Nat.le_of_ble_eq_true rfl, rfl, Nat.le_of_ble_eq_true rfl⟩ (k_X11_lack (d + 125) h323) (show Rn N xs (d + 132) meL 1207 [some (.ref 1000000), some (.ref 0), some (.ref 88), some (.int x3)] [(.int v325)] (SH, s324) r from ?_)
  refine Rn_sq srtL 803 6 (pc' := 1213) (ls' := [some (.ref 1000000), some (.ref 0), some (.ref 88), some (.int x3)]) (st' := [(.int (x3 + (ci 1))), (.ref 1000000), (.ref 88)]) (h1 := (SH, s324)) rfl ?_
  obtain ⟨h326, hJ⟩ := m_gn hJ
  refine Rn_ev srtL 809 rfl rfl rfl (op_iaL h_N h_X h326) ?_
  obtain ⟨v329, s328, h327, hJ⟩ := m_b2 hJ
  refine Rn_call srtL 810 rfl rfl rfl ⟨Nat.le_of_ble_eq_true rfl, Nat.le_of_ble_eq_true rfl, rfl, Nat.le_of_ble_eq_true rfl⟩ (k_X12_lack (d + 125) h327) (show Rn N xs (d + 132) meL 1217 [some (.ref 1000000), some (.ref 0), some (.ref 88), some (.int x3)] [(.int v329)] (SH, s328) r from ?_)
  refine Rn_sq srtL 811 2 (pc' := 1586) (ls' := [some (.ref 1000000), some (.ref 0), some (.ref 88), some (.int x3)]) (st' := []) (h1 := (SH, s328)) rfl ?_
  exact (k_law_1586 LN Lx d h_N h_X hJ hC)
def F_law_1221 (LN : Nat) (Lx : Nat → Int32) (x3 : Int32) (s : mG) : Option ((Int32 × mG) ⊕ (Int32 × mG)) :=
  if (x3 + (ci 1)) < 0 ∨ LN ≤ (x3 + (ci 1)).toNatClampNeg then none else
  b2 (F_X11_knocks (Lx (x3 + (ci 1)).toNatClampNeg) s) fun v334 s333 =>
  if (x3 + (ci 1)) < 0 ∨ LN ≤ (x3 + (ci 1)).toNatClampNeg then none else
  b2 (F_X12_knocks (Lx (x3 + (ci 1)).toNatClampNeg) s333) fun v338 s337 =>
  if v334 = v338 then
    F_law_1586 LN Lx x3 s337
  else
    some (Sum.inr ((ci 0), s337))
set_option maxRecDepth 60000 in
theorem k_law_1221 {N : Nat} {xs : Nat → Int32} (LN : Nat) (Lx : Nat → Int32) (d : Nat) (h_N : N = LN) (h_X : xs = Lx) {r : Option Value × mH} {s : mG} {x3 : Int32} {τ : ((Int32 × mG) ⊕ (Int32 × mG))} (hJ : F_law_1221 LN Lx x3 s = some τ) (hC : (C_law_18 N xs LN Lx d r (fun τ => r = (some (.int τ.1), (SH, τ.2)))) τ) : Rn N xs (d + 132) meL 1221 [some (.ref 1000000), some (.ref 0), some (.ref 88), some (.int x3)] [] (SH, s) r := by
  unfold F_law_1221 at hJ
  refine Rn_sq srtL 813 5 (pc' := 1226) (ls' := [some (.ref 1000000), some (.ref 0), some (.ref 88), some (.int x3)]) (st' := [(.int (x3 + (ci 1))), (.ref 1000000), (.ref 0)]) (h1 := (SH, s)) rfl ?_
  obtain ⟨h331, hJ⟩ := m_gn hJ
  refine Rn_ev srtL 818 rfl rfl rfl (op_iaL h_N h_X h331) ?_
  obtain ⟨v334, s333, h332, hJ⟩ := m_b2 hJ
  refine Rn_call srtL 819 rfl rfl rfl ⟨Nat.le_of_ble_eq_true rfl, Nat.le_of_ble_eq_true rfl, rfl, Nat.le_of_ble_eq_true rfl⟩ (k_X11_knocks (d + 125) h332) (show Rn N xs (d + 132) meL 1230 [some (.ref 1000000), some (.ref 0), some (.ref 88), some (.int x3)] [(.int v334)] (SH, s333) r from ?_)
  refine Rn_sq srtL 820 5 (pc' := 1235) (ls' := [some (.ref 1000000), some (.ref 0), some (.ref 88), some (.int x3)]) (st' := [(.int (x3 + (ci 1))), (.ref 1000000), (.ref 88), (.int v334)]) (h1 := (SH, s333)) rfl ?_
  obtain ⟨h335, hJ⟩ := m_gn hJ
  refine Rn_ev srtL 825 rfl rfl rfl (op_iaL h_N h_X h335) ?_
  obtain ⟨v338, s337, h336, hJ⟩ := m_b2 hJ
  refine Rn_call srtL 826 rfl rfl rfl ⟨Nat.le_of_ble_eq_true rfl, Nat.le_of_ble_eq_true rfl, rfl, Nat.le_of_ble_eq_true rfl⟩ (k_X12_knocks (d + 124) h336) (show Rn N xs (d + 132) meL 1239 [some (.ref 1000000), some (.ref 0), some (.ref 88), some (.int x3)] [(.int v338), (.int v334)] (SH, s337) r from ?_)
  refine Rn_sq srtL 827 1 (pc' := (if v334 = v338 then 1586 else 1242)) (ls' := [some (.ref 1000000), some (.ref 0), some (.ref 88), some (.int x3)]) (st' := []) (h1 := (SH, s337)) rfl (Rn_if (fun h339 => ?_) (fun h339 => ?_))
  · replace hJ := m_ifp h339 hJ
    exact (k_law_1586 LN Lx d h_N h_X hJ hC)
  · replace hJ := m_ifn h339 hJ
    refine Rn_sq srtL 828 1 (pc' := 1243) (ls' := [some (.ref 1000000), some (.ref 0), some (.ref 88), some (.int x3)]) (st' := [(.int (ci 0))]) (h1 := (SH, s337)) rfl ?_
    rw [← Option.some.inj hJ] at hC
    have hC : r = (some (.int (ci 0)), (SH, s337)) := hC
    subst hC
    exact Rn_ret srtL 829 rfl rfl (m_ret_b rfl (by decide))
def F_law_1244 (LN : Nat) (Lx : Nat → Int32) (x3 : Int32) (s : mG) : Option ((Int32 × mG) ⊕ (Int32 × mG)) :=
  if (x3 + (ci 1)) < 0 ∨ LN ≤ (x3 + (ci 1)).toNatClampNeg then none else
  if (x3 + (ci 2)) < 0 ∨ LN ≤ (x3 + (ci 2)).toNatClampNeg then none else
  b2 (F_X11_tag (Lx (x3 + (ci 1)).toNatClampNeg) (Lx (x3 + (ci 2)).toNatClampNeg) s) fun v345 s344 =>
  if (x3 + (ci 1)) < 0 ∨ LN ≤ (x3 + (ci 1)).toNatClampNeg then none else
  if (x3 + (ci 2)) < 0 ∨ LN ≤ (x3 + (ci 2)).toNatClampNeg then none else
  b2 (F_X12_tag (Lx (x3 + (ci 1)).toNatClampNeg) (Lx (x3 + (ci 2)).toNatClampNeg) s344) fun v350 s349 =>
  F_law_1586 LN Lx x3 s349
set_option maxRecDepth 60000 in
theorem k_law_1244 {N : Nat} {xs : Nat → Int32} (LN : Nat) (Lx : Nat → Int32) (d : Nat) (h_N : N = LN) (h_X : xs = Lx) {r : Option Value × mH} {s : mG} {x3 : Int32} {τ : ((Int32 × mG) ⊕ (Int32 × mG))} (hJ : F_law_1244 LN Lx x3 s = some τ) (hC : (C_law_18 N xs LN Lx d r (fun τ => r = (some (.int τ.1), (SH, τ.2)))) τ) : Rn N xs (d + 132) meL 1244 [some (.ref 1000000), some (.ref 0), some (.ref 88), some (.int x3)] [] (SH, s) r := by
  unfold F_law_1244 at hJ
  refine Rn_sq srtL 830 5 (pc' := 1249) (ls' := [some (.ref 1000000), some (.ref 0), some (.ref 88), some (.int x3)]) (st' := [(.int (x3 + (ci 1))), (.ref 1000000), (.ref 0)]) (h1 := (SH, s)) rfl ?_
  obtain ⟨h341, hJ⟩ := m_gn hJ
  refine Rn_ev srtL 835 rfl rfl rfl (op_iaL h_N h_X h341) ?_
  refine Rn_sq srtL 836 4 (pc' := 1254) (ls' := [some (.ref 1000000), some (.ref 0), some (.ref 88), some (.int x3)]) (st' := [(.int (x3 + (ci 2))), (.ref 1000000), (.int (Lx (x3 + (ci 1)).toNatClampNeg)), (.ref 0)]) (h1 := (SH, s)) rfl ?_
  obtain ⟨h342, hJ⟩ := m_gn hJ
  refine Rn_ev srtL 840 rfl rfl rfl (op_iaL h_N h_X h342) ?_
  obtain ⟨v345, s344, h343, hJ⟩ := m_b2 hJ
  refine Rn_call srtL 841 rfl rfl rfl ⟨Nat.le_of_ble_eq_true rfl, Nat.le_of_ble_eq_true rfl, rfl, Nat.le_of_ble_eq_true rfl⟩ (k_X11_tag (d + 126) h343) (show Rn N xs (d + 132) meL 1258 [some (.ref 1000000), some (.ref 0), some (.ref 88), some (.int x3)] [(.int v345)] (SH, s344) r from ?_)
  refine Rn_sq srtL 842 6 (pc' := 1264) (ls' := [some (.ref 1000000), some (.ref 0), some (.ref 88), some (.int x3)]) (st' := [(.int (x3 + (ci 1))), (.ref 1000000), (.ref 88)]) (h1 := (SH, s344)) rfl ?_
  obtain ⟨h346, hJ⟩ := m_gn hJ
  refine Rn_ev srtL 848 rfl rfl rfl (op_iaL h_N h_X h346) ?_
  refine Rn_sq srtL 849 4 (pc' := 1269) (ls' := [some (.ref 1000000), some (.ref 0), some (.ref 88), some (.int x3)]) (st' := [(.int (x3 + (ci 2))), (.ref 1000000), (.int (Lx (x3 + (ci 1)).toNatClampNeg)), (.ref 88)]) (h1 := (SH, s344)) rfl ?_
  obtain ⟨h347, hJ⟩ := m_gn hJ
  refine Rn_ev srtL 853 rfl rfl rfl (op_iaL h_N h_X h347) ?_
  obtain ⟨v350, s349, h348, hJ⟩ := m_b2 hJ
  refine Rn_call srtL 854 rfl rfl rfl ⟨Nat.le_of_ble_eq_true rfl, Nat.le_of_ble_eq_true rfl, rfl, Nat.le_of_ble_eq_true rfl⟩ (k_X12_tag (d + 126) h348) (show Rn N xs (d + 132) meL 1273 [some (.ref 1000000), some (.ref 0), some (.ref 88), some (.int x3)] [(.int v350)] (SH, s349) r from ?_)
  refine Rn_sq srtL 855 2 (pc' := 1586) (ls' := [some (.ref 1000000), some (.ref 0), some (.ref 88), some (.int x3)]) (st' := []) (h1 := (SH, s349)) rfl ?_
  exact (k_law_1586 LN Lx d h_N h_X hJ hC)
def F_law_1277 (LN : Nat) (Lx : Nat → Int32) (x3 : Int32) (s : mG) : Option ((Int32 × mG) ⊕ (Int32 × mG)) :=
  if (x3 + (ci 1)) < 0 ∨ LN ≤ (x3 + (ci 1)).toNatClampNeg then none else
  if (x3 + (ci 2)) < 0 ∨ LN ≤ (x3 + (ci 2)).toNatClampNeg then none else
  if (x3 + (ci 3)) < 0 ∨ LN ≤ (x3 + (ci 3)).toNatClampNeg then none else
  if (x3 + (ci 4)) < 0 ∨ LN ≤ (x3 + (ci 4)).toNatClampNeg then none else
  b2 (F_X11_room (Lx (x3 + (ci 1)).toNatClampNeg) (Lx (x3 + (ci 2)).toNatClampNeg) (Lx (x3 + (ci 3)).toNatClampNeg) (Lx (x3 + (ci 4)).toNatClampNeg) s) fun v358 s357 =>
  if (x3 + (ci 1)) < 0 ∨ LN ≤ (x3 + (ci 1)).toNatClampNeg then none else
  if (x3 + (ci 2)) < 0 ∨ LN ≤ (x3 + (ci 2)).toNatClampNeg then none else
  if (x3 + (ci 3)) < 0 ∨ LN ≤ (x3 + (ci 3)).toNatClampNeg then none else
  if (x3 + (ci 4)) < 0 ∨ LN ≤ (x3 + (ci 4)).toNatClampNeg then none else
  b2 (F_X12_room (Lx (x3 + (ci 1)).toNatClampNeg) (Lx (x3 + (ci 2)).toNatClampNeg) (Lx (x3 + (ci 3)).toNatClampNeg) (Lx (x3 + (ci 4)).toNatClampNeg) s357) fun v365 s364 =>
  F_law_1586 LN Lx x3 s364
set_option maxRecDepth 60000 in
theorem k_law_1277 {N : Nat} {xs : Nat → Int32} (LN : Nat) (Lx : Nat → Int32) (d : Nat) (h_N : N = LN) (h_X : xs = Lx) {r : Option Value × mH} {s : mG} {x3 : Int32} {τ : ((Int32 × mG) ⊕ (Int32 × mG))} (hJ : F_law_1277 LN Lx x3 s = some τ) (hC : (C_law_18 N xs LN Lx d r (fun τ => r = (some (.int τ.1), (SH, τ.2)))) τ) : Rn N xs (d + 132) meL 1277 [some (.ref 1000000), some (.ref 0), some (.ref 88), some (.int x3)] [] (SH, s) r := by
  unfold F_law_1277 at hJ
  refine Rn_sq srtL 857 5 (pc' := 1282) (ls' := [some (.ref 1000000), some (.ref 0), some (.ref 88), some (.int x3)]) (st' := [(.int (x3 + (ci 1))), (.ref 1000000), (.ref 0)]) (h1 := (SH, s)) rfl ?_
  obtain ⟨h352, hJ⟩ := m_gn hJ
  refine Rn_ev srtL 862 rfl rfl rfl (op_iaL h_N h_X h352) ?_
  refine Rn_sq srtL 863 4 (pc' := 1287) (ls' := [some (.ref 1000000), some (.ref 0), some (.ref 88), some (.int x3)]) (st' := [(.int (x3 + (ci 2))), (.ref 1000000), (.int (Lx (x3 + (ci 1)).toNatClampNeg)), (.ref 0)]) (h1 := (SH, s)) rfl ?_
  obtain ⟨h353, hJ⟩ := m_gn hJ
  refine Rn_ev srtL 867 rfl rfl rfl (op_iaL h_N h_X h353) ?_
  refine Rn_sq srtL 868 4 (pc' := 1292) (ls' := [some (.ref 1000000), some (.ref 0), some (.ref 88), some (.int x3)]) (st' := [(.int (x3 + (ci 3))), (.ref 1000000), (.int (Lx (x3 + (ci 2)).toNatClampNeg)), (.int (Lx (x3 + (ci 1)).toNatClampNeg)), (.ref 0)]) (h1 := (SH, s)) rfl ?_
  obtain ⟨h354, hJ⟩ := m_gn hJ
  refine Rn_ev srtL 872 rfl rfl rfl (op_iaL h_N h_X h354) ?_
  refine Rn_sq srtL 873 4 (pc' := 1297) (ls' := [some (.ref 1000000), some (.ref 0), some (.ref 88), some (.int x3)]) (st' := [(.int (x3 + (ci 4))), (.ref 1000000), (.int (Lx (x3 + (ci 3)).toNatClampNeg)), (.int (Lx (x3 + (ci 2)).toNatClampNeg)), (.int (Lx (x3 + (ci 1)).toNatClampNeg)), (.ref 0)]) (h1 := (SH, s)) rfl ?_
  obtain ⟨h355, hJ⟩ := m_gn hJ
  refine Rn_ev srtL 877 rfl rfl rfl (op_iaL h_N h_X h355) ?_
  obtain ⟨v358, s357, h356, hJ⟩ := m_b2 hJ
  refine Rn_call srtL 878 rfl rfl rfl ⟨Nat.le_of_ble_eq_true rfl, Nat.le_of_ble_eq_true rfl, rfl, Nat.le_of_ble_eq_true rfl⟩ (k_X11_room (d + 129) h356) (show Rn N xs (d + 132) meL 1301 [some (.ref 1000000), some (.ref 0), some (.ref 88), some (.int x3)] [(.int v358)] (SH, s357) r from ?_)
  refine Rn_sq srtL 879 6 (pc' := 1307) (ls' := [some (.ref 1000000), some (.ref 0), some (.ref 88), some (.int x3)]) (st' := [(.int (x3 + (ci 1))), (.ref 1000000), (.ref 88)]) (h1 := (SH, s357)) rfl ?_
  obtain ⟨h359, hJ⟩ := m_gn hJ
  refine Rn_ev srtL 885 rfl rfl rfl (op_iaL h_N h_X h359) ?_
  refine Rn_sq srtL 886 4 (pc' := 1312) (ls' := [some (.ref 1000000), some (.ref 0), some (.ref 88), some (.int x3)]) (st' := [(.int (x3 + (ci 2))), (.ref 1000000), (.int (Lx (x3 + (ci 1)).toNatClampNeg)), (.ref 88)]) (h1 := (SH, s357)) rfl ?_
  obtain ⟨h360, hJ⟩ := m_gn hJ
  refine Rn_ev srtL 890 rfl rfl rfl (op_iaL h_N h_X h360) ?_
  refine Rn_sq srtL 891 4 (pc' := 1317) (ls' := [some (.ref 1000000), some (.ref 0), some (.ref 88), some (.int x3)]) (st' := [(.int (x3 + (ci 3))), (.ref 1000000), (.int (Lx (x3 + (ci 2)).toNatClampNeg)), (.int (Lx (x3 + (ci 1)).toNatClampNeg)), (.ref 88)]) (h1 := (SH, s357)) rfl ?_
  obtain ⟨h361, hJ⟩ := m_gn hJ
  refine Rn_ev srtL 895 rfl rfl rfl (op_iaL h_N h_X h361) ?_
  refine Rn_sq srtL 896 4 (pc' := 1322) (ls' := [some (.ref 1000000), some (.ref 0), some (.ref 88), some (.int x3)]) (st' := [(.int (x3 + (ci 4))), (.ref 1000000), (.int (Lx (x3 + (ci 3)).toNatClampNeg)), (.int (Lx (x3 + (ci 2)).toNatClampNeg)), (.int (Lx (x3 + (ci 1)).toNatClampNeg)), (.ref 88)]) (h1 := (SH, s357)) rfl ?_
  obtain ⟨h362, hJ⟩ := m_gn hJ
  refine Rn_ev srtL 900 rfl rfl rfl (op_iaL h_N h_X h362) ?_
  obtain ⟨v365, s364, h363, hJ⟩ := m_b2 hJ
  refine Rn_call srtL 901 rfl rfl rfl ⟨Nat.le_of_ble_eq_true rfl, Nat.le_of_ble_eq_true rfl, rfl, Nat.le_of_ble_eq_true rfl⟩ (k_X12_room (d + 129) h363) (show Rn N xs (d + 132) meL 1326 [some (.ref 1000000), some (.ref 0), some (.ref 88), some (.int x3)] [(.int v365)] (SH, s364) r from ?_)
  refine Rn_sq srtL 902 2 (pc' := 1586) (ls' := [some (.ref 1000000), some (.ref 0), some (.ref 88), some (.int x3)]) (st' := []) (h1 := (SH, s364)) rfl ?_
  exact (k_law_1586 LN Lx d h_N h_X hJ hC)
def F_law_1330 (LN : Nat) (Lx : Nat → Int32) (x3 : Int32) (s : mG) : Option ((Int32 × mG) ⊕ (Int32 × mG)) :=
  if (x3 + (ci 1)) < 0 ∨ LN ≤ (x3 + (ci 1)).toNatClampNeg then none else
  b1 (F_X11_done s (Lx (x3 + (ci 1)).toNatClampNeg)) fun v369 =>
  if (x3 + (ci 1)) < 0 ∨ LN ≤ (x3 + (ci 1)).toNatClampNeg then none else
  b1 (F_X12_done s (Lx (x3 + (ci 1)).toNatClampNeg)) fun v372 =>
  F_law_1586 LN Lx x3 s
set_option maxRecDepth 60000 in
theorem k_law_1330 {N : Nat} {xs : Nat → Int32} (LN : Nat) (Lx : Nat → Int32) (d : Nat) (h_N : N = LN) (h_X : xs = Lx) {r : Option Value × mH} {s : mG} {x3 : Int32} {τ : ((Int32 × mG) ⊕ (Int32 × mG))} (hJ : F_law_1330 LN Lx x3 s = some τ) (hC : (C_law_18 N xs LN Lx d r (fun τ => r = (some (.int τ.1), (SH, τ.2)))) τ) : Rn N xs (d + 132) meL 1330 [some (.ref 1000000), some (.ref 0), some (.ref 88), some (.int x3)] [] (SH, s) r := by
  unfold F_law_1330 at hJ
  refine Rn_sq srtL 904 5 (pc' := 1335) (ls' := [some (.ref 1000000), some (.ref 0), some (.ref 88), some (.int x3)]) (st' := [(.int (x3 + (ci 1))), (.ref 1000000), (.ref 0)]) (h1 := (SH, s)) rfl ?_
  obtain ⟨h367, hJ⟩ := m_gn hJ
  refine Rn_ev srtL 909 rfl rfl rfl (op_iaL h_N h_X h367) ?_
  obtain ⟨v369, h368, hJ⟩ := m_b1 hJ
  refine Rn_call srtL 910 rfl rfl rfl ⟨Nat.le_of_ble_eq_true rfl, Nat.le_of_ble_eq_true rfl, rfl, Nat.le_of_ble_eq_true rfl⟩ (k_X11_done (d + 127) h368) (show Rn N xs (d + 132) meL 1339 [some (.ref 1000000), some (.ref 0), some (.ref 88), some (.int x3)] [(.int v369)] (SH, s) r from ?_)
  refine Rn_sq srtL 911 6 (pc' := 1345) (ls' := [some (.ref 1000000), some (.ref 0), some (.ref 88), some (.int x3)]) (st' := [(.int (x3 + (ci 1))), (.ref 1000000), (.ref 88)]) (h1 := (SH, s)) rfl ?_
  obtain ⟨h370, hJ⟩ := m_gn hJ
  refine Rn_ev srtL 917 rfl rfl rfl (op_iaL h_N h_X h370) ?_
  obtain ⟨v372, h371, hJ⟩ := m_b1 hJ
  refine Rn_call srtL 918 rfl rfl rfl ⟨Nat.le_of_ble_eq_true rfl, Nat.le_of_ble_eq_true rfl, rfl, Nat.le_of_ble_eq_true rfl⟩ (k_X12_done (d + 129) h371) (show Rn N xs (d + 132) meL 1349 [some (.ref 1000000), some (.ref 0), some (.ref 88), some (.int x3)] [(.int v372)] (SH, s) r from ?_)
  refine Rn_sq srtL 919 2 (pc' := 1586) (ls' := [some (.ref 1000000), some (.ref 0), some (.ref 88), some (.int x3)]) (st' := []) (h1 := (SH, s)) rfl ?_
  exact (k_law_1586 LN Lx d h_N h_X hJ hC)
def F_law_1353 (LN : Nat) (Lx : Nat → Int32) (x3 : Int32) (s : mG) : Option ((Int32 × mG) ⊕ (Int32 × mG)) :=
  if (x3 + (ci 1)) < 0 ∨ LN ≤ (x3 + (ci 1)).toNatClampNeg then none else
  b1 (F_X11_swapped s (Lx (x3 + (ci 1)).toNatClampNeg)) fun v376 =>
  if (x3 + (ci 1)) < 0 ∨ LN ≤ (x3 + (ci 1)).toNatClampNeg then none else
  b1 (F_X12_swapped s (Lx (x3 + (ci 1)).toNatClampNeg)) fun v379 =>
  F_law_1586 LN Lx x3 s
set_option maxRecDepth 60000 in
theorem k_law_1353 {N : Nat} {xs : Nat → Int32} (LN : Nat) (Lx : Nat → Int32) (d : Nat) (h_N : N = LN) (h_X : xs = Lx) {r : Option Value × mH} {s : mG} {x3 : Int32} {τ : ((Int32 × mG) ⊕ (Int32 × mG))} (hJ : F_law_1353 LN Lx x3 s = some τ) (hC : (C_law_18 N xs LN Lx d r (fun τ => r = (some (.int τ.1), (SH, τ.2)))) τ) : Rn N xs (d + 132) meL 1353 [some (.ref 1000000), some (.ref 0), some (.ref 88), some (.int x3)] [] (SH, s) r := by
  unfold F_law_1353 at hJ
  refine Rn_sq srtL 921 5 (pc' := 1358) (ls' := [some (.ref 1000000), some (.ref 0), some (.ref 88), some (.int x3)]) (st' := [(.int (x3 + (ci 1))), (.ref 1000000), (.ref 0)]) (h1 := (SH, s)) rfl ?_
  obtain ⟨h374, hJ⟩ := m_gn hJ
  refine Rn_ev srtL 926 rfl rfl rfl (op_iaL h_N h_X h374) ?_
  obtain ⟨v376, h375, hJ⟩ := m_b1 hJ
  refine Rn_call srtL 927 rfl rfl rfl ⟨Nat.le_of_ble_eq_true rfl, Nat.le_of_ble_eq_true rfl, rfl, Nat.le_of_ble_eq_true rfl⟩ (k_X11_swapped (d + 127) h375) (show Rn N xs (d + 132) meL 1362 [some (.ref 1000000), some (.ref 0), some (.ref 88), some (.int x3)] [(.int v376)] (SH, s) r from ?_)
  refine Rn_sq srtL 928 6 (pc' := 1368) (ls' := [some (.ref 1000000), some (.ref 0), some (.ref 88), some (.int x3)]) (st' := [(.int (x3 + (ci 1))), (.ref 1000000), (.ref 88)]) (h1 := (SH, s)) rfl ?_
  obtain ⟨h377, hJ⟩ := m_gn hJ
  refine Rn_ev srtL 934 rfl rfl rfl (op_iaL h_N h_X h377) ?_
  obtain ⟨v379, h378, hJ⟩ := m_b1 hJ
  refine Rn_call srtL 935 rfl rfl rfl ⟨Nat.le_of_ble_eq_true rfl, Nat.le_of_ble_eq_true rfl, rfl, Nat.le_of_ble_eq_true rfl⟩ (k_X12_swapped (d + 129) h378) (show Rn N xs (d + 132) meL 1372 [some (.ref 1000000), some (.ref 0), some (.ref 88), some (.int x3)] [(.int v379)] (SH, s) r from ?_)
  refine Rn_sq srtL 936 2 (pc' := 1586) (ls' := [some (.ref 1000000), some (.ref 0), some (.ref 88), some (.int x3)]) (st' := []) (h1 := (SH, s)) rfl ?_
  exact (k_law_1586 LN Lx d h_N h_X hJ hC)
def F_law_1376 (LN : Nat) (Lx : Nat → Int32) (x3 : Int32) (s : mG) : Option ((Int32 × mG) ⊕ (Int32 × mG)) :=
  if (x3 + (ci 1)) < 0 ∨ LN ≤ (x3 + (ci 1)).toNatClampNeg then none else
  if (x3 + (ci 2)) < 0 ∨ LN ≤ (x3 + (ci 2)).toNatClampNeg then none else
  b2 (F_X11_fire (Lx (x3 + (ci 1)).toNatClampNeg) (Lx (x3 + (ci 2)).toNatClampNeg) s) fun v385 s384 =>
  if (x3 + (ci 1)) < 0 ∨ LN ≤ (x3 + (ci 1)).toNatClampNeg then none else
  if (x3 + (ci 2)) < 0 ∨ LN ≤ (x3 + (ci 2)).toNatClampNeg then none else
  b2 (F_X12_fire (Lx (x3 + (ci 1)).toNatClampNeg) (Lx (x3 + (ci 2)).toNatClampNeg) s384) fun v390 s389 =>
  F_law_1586 LN Lx x3 s389
set_option maxRecDepth 60000 in
theorem k_law_1376 {N : Nat} {xs : Nat → Int32} (LN : Nat) (Lx : Nat → Int32) (d : Nat) (h_N : N = LN) (h_X : xs = Lx) {r : Option Value × mH} {s : mG} {x3 : Int32} {τ : ((Int32 × mG) ⊕ (Int32 × mG))} (hJ : F_law_1376 LN Lx x3 s = some τ) (hC : (C_law_18 N xs LN Lx d r (fun τ => r = (some (.int τ.1), (SH, τ.2)))) τ) : Rn N xs (d + 132) meL 1376 [some (.ref 1000000), some (.ref 0), some (.ref 88), some (.int x3)] [] (SH, s) r := by
  unfold F_law_1376 at hJ
  refine Rn_sq srtL 938 5 (pc' := 1381) (ls' := [some (.ref 1000000), some (.ref 0), some (.ref 88), some (.int x3)]) (st' := [(.int (x3 + (ci 1))), (.ref 1000000), (.ref 0)]) (h1 := (SH, s)) rfl ?_
  obtain ⟨h381, hJ⟩ := m_gn hJ
  refine Rn_ev srtL 943 rfl rfl rfl (op_iaL h_N h_X h381) ?_
  refine Rn_sq srtL 944 4 (pc' := 1386) (ls' := [some (.ref 1000000), some (.ref 0), some (.ref 88), some (.int x3)]) (st' := [(.int (x3 + (ci 2))), (.ref 1000000), (.int (Lx (x3 + (ci 1)).toNatClampNeg)), (.ref 0)]) (h1 := (SH, s)) rfl ?_
  obtain ⟨h382, hJ⟩ := m_gn hJ
  refine Rn_ev srtL 948 rfl rfl rfl (op_iaL h_N h_X h382) ?_
  obtain ⟨v385, s384, h383, hJ⟩ := m_b2 hJ
  refine Rn_call srtL 949 rfl rfl rfl ⟨Nat.le_of_ble_eq_true rfl, Nat.le_of_ble_eq_true rfl, rfl, Nat.le_of_ble_eq_true rfl⟩ (k_X11_fire (d + 123) h383) (show Rn N xs (d + 132) meL 1390 [some (.ref 1000000), some (.ref 0), some (.ref 88), some (.int x3)] [(.int v385)] (SH, s384) r from ?_)
  refine Rn_sq srtL 950 6 (pc' := 1396) (ls' := [some (.ref 1000000), some (.ref 0), some (.ref 88), some (.int x3)]) (st' := [(.int (x3 + (ci 1))), (.ref 1000000), (.ref 88)]) (h1 := (SH, s384)) rfl ?_
  obtain ⟨h386, hJ⟩ := m_gn hJ
  refine Rn_ev srtL 956 rfl rfl rfl (op_iaL h_N h_X h386) ?_
  refine Rn_sq srtL 957 4 (pc' := 1401) (ls' := [some (.ref 1000000), some (.ref 0), some (.ref 88), some (.int x3)]) (st' := [(.int (x3 + (ci 2))), (.ref 1000000), (.int (Lx (x3 + (ci 1)).toNatClampNeg)), (.ref 88)]) (h1 := (SH, s384)) rfl ?_
  obtain ⟨h387, hJ⟩ := m_gn hJ
  refine Rn_ev srtL 961 rfl rfl rfl (op_iaL h_N h_X h387) ?_
  obtain ⟨v390, s389, h388, hJ⟩ := m_b2 hJ
  refine Rn_call srtL 962 rfl rfl rfl ⟨Nat.le_of_ble_eq_true rfl, Nat.le_of_ble_eq_true rfl, rfl, Nat.le_of_ble_eq_true rfl⟩ (k_X12_fire (d + 124) h388) (show Rn N xs (d + 132) meL 1405 [some (.ref 1000000), some (.ref 0), some (.ref 88), some (.int x3)] [(.int v390)] (SH, s389) r from ?_)
  refine Rn_sq srtL 963 2 (pc' := 1586) (ls' := [some (.ref 1000000), some (.ref 0), some (.ref 88), some (.int x3)]) (st' := []) (h1 := (SH, s389)) rfl ?_
  exact (k_law_1586 LN Lx d h_N h_X hJ hC)
def F_law_1409 (LN : Nat) (Lx : Nat → Int32) (x3 : Int32) (s : mG) : Option ((Int32 × mG) ⊕ (Int32 × mG)) :=
  if (x3 + (ci 1)) < 0 ∨ LN ≤ (x3 + (ci 1)).toNatClampNeg then none else
  if (x3 + (ci 2)) < 0 ∨ LN ≤ (x3 + (ci 2)).toNatClampNeg then none else
  b2 (F_X11_stands (Lx (x3 + (ci 1)).toNatClampNeg) (Lx (x3 + (ci 2)).toNatClampNeg) s) fun v396 s395 =>
  if (x3 + (ci 1)) < 0 ∨ LN ≤ (x3 + (ci 1)).toNatClampNeg then none else
  if (x3 + (ci 2)) < 0 ∨ LN ≤ (x3 + (ci 2)).toNatClampNeg then none else
  b2 (F_X12_stands (Lx (x3 + (ci 1)).toNatClampNeg) (Lx (x3 + (ci 2)).toNatClampNeg) s395) fun v401 s400 =>
  F_law_1586 LN Lx x3 s400
set_option maxRecDepth 60000 in
theorem k_law_1409 {N : Nat} {xs : Nat → Int32} (LN : Nat) (Lx : Nat → Int32) (d : Nat) (h_N : N = LN) (h_X : xs = Lx) {r : Option Value × mH} {s : mG} {x3 : Int32} {τ : ((Int32 × mG) ⊕ (Int32 × mG))} (hJ : F_law_1409 LN Lx x3 s = some τ) (hC : (C_law_18 N xs LN Lx d r (fun τ => r = (some (.int τ.1), (SH, τ.2)))) τ) : Rn N xs (d + 132) meL 1409 [some (.ref 1000000), some (.ref 0), some (.ref 88), some (.int x3)] [] (SH, s) r := by
  unfold F_law_1409 at hJ
  refine Rn_sq srtL 965 5 (pc' := 1414) (ls' := [some (.ref 1000000), some (.ref 0), some (.ref 88), some (.int x3)]) (st' := [(.int (x3 + (ci 1))), (.ref 1000000), (.ref 0)]) (h1 := (SH, s)) rfl ?_
  obtain ⟨h392, hJ⟩ := m_gn hJ
  refine Rn_ev srtL 970 rfl rfl rfl (op_iaL h_N h_X h392) ?_
  refine Rn_sq srtL 971 4 (pc' := 1419) (ls' := [some (.ref 1000000), some (.ref 0), some (.ref 88), some (.int x3)]) (st' := [(.int (x3 + (ci 2))), (.ref 1000000), (.int (Lx (x3 + (ci 1)).toNatClampNeg)), (.ref 0)]) (h1 := (SH, s)) rfl ?_
  obtain ⟨h393, hJ⟩ := m_gn hJ
  refine Rn_ev srtL 975 rfl rfl rfl (op_iaL h_N h_X h393) ?_
  obtain ⟨v396, s395, h394, hJ⟩ := m_b2 hJ
  refine Rn_call srtL 976 rfl rfl rfl ⟨Nat.le_of_ble_eq_true rfl, Nat.le_of_ble_eq_true rfl, rfl, Nat.le_of_ble_eq_true rfl⟩ (k_X11_stands (d + 126) h394) (show Rn N xs (d + 132) meL 1423 [some (.ref 1000000), some (.ref 0), some (.ref 88), some (.int x3)] [(.int v396)] (SH, s395) r from ?_)
  refine Rn_sq srtL 977 6 (pc' := 1429) (ls' := [some (.ref 1000000), some (.ref 0), some (.ref 88), some (.int x3)]) (st' := [(.int (x3 + (ci 1))), (.ref 1000000), (.ref 88)]) (h1 := (SH, s395)) rfl ?_
  obtain ⟨h397, hJ⟩ := m_gn hJ
  refine Rn_ev srtL 983 rfl rfl rfl (op_iaL h_N h_X h397) ?_
  refine Rn_sq srtL 984 4 (pc' := 1434) (ls' := [some (.ref 1000000), some (.ref 0), some (.ref 88), some (.int x3)]) (st' := [(.int (x3 + (ci 2))), (.ref 1000000), (.int (Lx (x3 + (ci 1)).toNatClampNeg)), (.ref 88)]) (h1 := (SH, s395)) rfl ?_
  obtain ⟨h398, hJ⟩ := m_gn hJ
  refine Rn_ev srtL 988 rfl rfl rfl (op_iaL h_N h_X h398) ?_
  obtain ⟨v401, s400, h399, hJ⟩ := m_b2 hJ
  refine Rn_call srtL 989 rfl rfl rfl ⟨Nat.le_of_ble_eq_true rfl, Nat.le_of_ble_eq_true rfl, rfl, Nat.le_of_ble_eq_true rfl⟩ (k_X12_stands (d + 126) h399) (show Rn N xs (d + 132) meL 1438 [some (.ref 1000000), some (.ref 0), some (.ref 88), some (.int x3)] [(.int v401)] (SH, s400) r from ?_)
  refine Rn_sq srtL 990 2 (pc' := 1586) (ls' := [some (.ref 1000000), some (.ref 0), some (.ref 88), some (.int x3)]) (st' := []) (h1 := (SH, s400)) rfl ?_
  exact (k_law_1586 LN Lx d h_N h_X hJ hC)
def F_law_1442 (LN : Nat) (Lx : Nat → Int32) (x3 : Int32) (s : mG) : Option ((Int32 × mG) ⊕ (Int32 × mG)) :=
  if (x3 + (ci 1)) < 0 ∨ LN ≤ (x3 + (ci 1)).toNatClampNeg then none else
  b1 (F_X11_tellsOn s (Lx (x3 + (ci 1)).toNatClampNeg)) fun v405 =>
  if (x3 + (ci 1)) < 0 ∨ LN ≤ (x3 + (ci 1)).toNatClampNeg then none else
  b1 (F_X12_tellsOn s (Lx (x3 + (ci 1)).toNatClampNeg)) fun v408 =>
  F_law_1586 LN Lx x3 s
set_option maxRecDepth 60000 in
theorem k_law_1442 {N : Nat} {xs : Nat → Int32} (LN : Nat) (Lx : Nat → Int32) (d : Nat) (h_N : N = LN) (h_X : xs = Lx) {r : Option Value × mH} {s : mG} {x3 : Int32} {τ : ((Int32 × mG) ⊕ (Int32 × mG))} (hJ : F_law_1442 LN Lx x3 s = some τ) (hC : (C_law_18 N xs LN Lx d r (fun τ => r = (some (.int τ.1), (SH, τ.2)))) τ) : Rn N xs (d + 132) meL 1442 [some (.ref 1000000), some (.ref 0), some (.ref 88), some (.int x3)] [] (SH, s) r := by
  unfold F_law_1442 at hJ
  refine Rn_sq srtL 992 5 (pc' := 1447) (ls' := [some (.ref 1000000), some (.ref 0), some (.ref 88), some (.int x3)]) (st' := [(.int (x3 + (ci 1))), (.ref 1000000), (.ref 0)]) (h1 := (SH, s)) rfl ?_
  obtain ⟨h403, hJ⟩ := m_gn hJ
  refine Rn_ev srtL 997 rfl rfl rfl (op_iaL h_N h_X h403) ?_
  obtain ⟨v405, h404, hJ⟩ := m_b1 hJ
  refine Rn_call srtL 998 rfl rfl rfl ⟨Nat.le_of_ble_eq_true rfl, Nat.le_of_ble_eq_true rfl, rfl, Nat.le_of_ble_eq_true rfl⟩ (k_X11_tellsOn (d + 128) h404) (show Rn N xs (d + 132) meL 1451 [some (.ref 1000000), some (.ref 0), some (.ref 88), some (.int x3)] [(.int v405)] (SH, s) r from ?_)
  refine Rn_sq srtL 999 6 (pc' := 1457) (ls' := [some (.ref 1000000), some (.ref 0), some (.ref 88), some (.int x3)]) (st' := [(.int (x3 + (ci 1))), (.ref 1000000), (.ref 88)]) (h1 := (SH, s)) rfl ?_
  obtain ⟨h406, hJ⟩ := m_gn hJ
  refine Rn_ev srtL 1005 rfl rfl rfl (op_iaL h_N h_X h406) ?_
  obtain ⟨v408, h407, hJ⟩ := m_b1 hJ
  refine Rn_call srtL 1006 rfl rfl rfl ⟨Nat.le_of_ble_eq_true rfl, Nat.le_of_ble_eq_true rfl, rfl, Nat.le_of_ble_eq_true rfl⟩ (k_X12_tellsOn (d + 130) h407) (show Rn N xs (d + 132) meL 1461 [some (.ref 1000000), some (.ref 0), some (.ref 88), some (.int x3)] [(.int v408)] (SH, s) r from ?_)
  refine Rn_sq srtL 1007 2 (pc' := 1586) (ls' := [some (.ref 1000000), some (.ref 0), some (.ref 88), some (.int x3)]) (st' := []) (h1 := (SH, s)) rfl ?_
  exact (k_law_1586 LN Lx d h_N h_X hJ hC)
def F_law_1465 (LN : Nat) (Lx : Nat → Int32) (x3 : Int32) (s : mG) : Option ((Int32 × mG) ⊕ (Int32 × mG)) :=
  b2 (F_X11_carries s) fun v412 s411 =>
  b2 (F_X12_carries s411) fun v415 s414 =>
  F_law_1586 LN Lx x3 s414
set_option maxRecDepth 60000 in
theorem k_law_1465 {N : Nat} {xs : Nat → Int32} (LN : Nat) (Lx : Nat → Int32) (d : Nat) (h_N : N = LN) (h_X : xs = Lx) {r : Option Value × mH} {s : mG} {x3 : Int32} {τ : ((Int32 × mG) ⊕ (Int32 × mG))} (hJ : F_law_1465 LN Lx x3 s = some τ) (hC : (C_law_18 N xs LN Lx d r (fun τ => r = (some (.int τ.1), (SH, τ.2)))) τ) : Rn N xs (d + 132) meL 1465 [some (.ref 1000000), some (.ref 0), some (.ref 88), some (.int x3)] [] (SH, s) r := by
  unfold F_law_1465 at hJ
  refine Rn_sq srtL 1009 1 (pc' := 1466) (ls' := [some (.ref 1000000), some (.ref 0), some (.ref 88), some (.int x3)]) (st' := [(.ref 0)]) (h1 := (SH, s)) rfl ?_
  obtain ⟨v412, s411, h410, hJ⟩ := m_b2 hJ
  refine Rn_call srtL 1010 rfl rfl rfl ⟨Nat.le_of_ble_eq_true rfl, Nat.le_of_ble_eq_true rfl, rfl, Nat.le_of_ble_eq_true rfl⟩ (k_X11_carries (d + 127) h410) (show Rn N xs (d + 132) meL 1469 [some (.ref 1000000), some (.ref 0), some (.ref 88), some (.int x3)] [(.int v412)] (SH, s411) r from ?_)
  refine Rn_sq srtL 1011 2 (pc' := 1471) (ls' := [some (.ref 1000000), some (.ref 0), some (.ref 88), some (.int x3)]) (st' := [(.ref 88)]) (h1 := (SH, s411)) rfl ?_
  obtain ⟨v415, s414, h413, hJ⟩ := m_b2 hJ
  refine Rn_call srtL 1013 rfl rfl rfl ⟨Nat.le_of_ble_eq_true rfl, Nat.le_of_ble_eq_true rfl, rfl, Nat.le_of_ble_eq_true rfl⟩ (k_X12_carries (d + 126) h413) (show Rn N xs (d + 132) meL 1474 [some (.ref 1000000), some (.ref 0), some (.ref 88), some (.int x3)] [(.int v415)] (SH, s414) r from ?_)
  refine Rn_sq srtL 1014 2 (pc' := 1586) (ls' := [some (.ref 1000000), some (.ref 0), some (.ref 88), some (.int x3)]) (st' := []) (h1 := (SH, s414)) rfl ?_
  exact (k_law_1586 LN Lx d h_N h_X hJ hC)
def F_law_1478 (LN : Nat) (Lx : Nat → Int32) (x3 : Int32) (s : mG) : Option ((Int32 × mG) ⊕ (Int32 × mG)) :=
  if (x3 + (ci 1)) < 0 ∨ LN ≤ (x3 + (ci 1)).toNatClampNeg then none else
  if (x3 + (ci 2)) < 0 ∨ LN ≤ (x3 + (ci 2)).toNatClampNeg then none else
  b2 (F_X11_away (Lx (x3 + (ci 1)).toNatClampNeg) (Lx (x3 + (ci 2)).toNatClampNeg) s) fun v421 s420 =>
  if (x3 + (ci 1)) < 0 ∨ LN ≤ (x3 + (ci 1)).toNatClampNeg then none else
  if (x3 + (ci 2)) < 0 ∨ LN ≤ (x3 + (ci 2)).toNatClampNeg then none else
  b2 (F_X12_away (Lx (x3 + (ci 1)).toNatClampNeg) (Lx (x3 + (ci 2)).toNatClampNeg) s420) fun v426 s425 =>
  F_law_1586 LN Lx x3 s425
set_option maxRecDepth 60000 in
theorem k_law_1478 {N : Nat} {xs : Nat → Int32} (LN : Nat) (Lx : Nat → Int32) (d : Nat) (h_N : N = LN) (h_X : xs = Lx) {r : Option Value × mH} {s : mG} {x3 : Int32} {τ : ((Int32 × mG) ⊕ (Int32 × mG))} (hJ : F_law_1478 LN Lx x3 s = some τ) (hC : (C_law_18 N xs LN Lx d r (fun τ => r = (some (.int τ.1), (SH, τ.2)))) τ) : Rn N xs (d + 132) meL 1478 [some (.ref 1000000), some (.ref 0), some (.ref 88), some (.int x3)] [] (SH, s) r := by
  unfold F_law_1478 at hJ
  refine Rn_sq srtL 1016 5 (pc' := 1483) (ls' := [some (.ref 1000000), some (.ref 0), some (.ref 88), some (.int x3)]) (st' := [(.int (x3 + (ci 1))), (.ref 1000000), (.ref 0)]) (h1 := (SH, s)) rfl ?_
  obtain ⟨h417, hJ⟩ := m_gn hJ
  refine Rn_ev srtL 1021 rfl rfl rfl (op_iaL h_N h_X h417) ?_
  refine Rn_sq srtL 1022 4 (pc' := 1488) (ls' := [some (.ref 1000000), some (.ref 0), some (.ref 88), some (.int x3)]) (st' := [(.int (x3 + (ci 2))), (.ref 1000000), (.int (Lx (x3 + (ci 1)).toNatClampNeg)), (.ref 0)]) (h1 := (SH, s)) rfl ?_
  obtain ⟨h418, hJ⟩ := m_gn hJ
  refine Rn_ev srtL 1026 rfl rfl rfl (op_iaL h_N h_X h418) ?_
  obtain ⟨v421, s420, h419, hJ⟩ := m_b2 hJ
  refine Rn_call srtL 1027 rfl rfl rfl ⟨Nat.le_of_ble_eq_true rfl, Nat.le_of_ble_eq_true rfl, rfl, Nat.le_of_ble_eq_true rfl⟩ (k_X11_away (d + 127) h419) (show Rn N xs (d + 132) meL 1492 [some (.ref 1000000), some (.ref 0), some (.ref 88), some (.int x3)] [(.int v421)] (SH, s420) r from ?_)
  refine Rn_sq srtL 1028 6 (pc' := 1498) (ls' := [some (.ref 1000000), some (.ref 0), some (.ref 88), some (.int x3)]) (st' := [(.int (x3 + (ci 1))), (.ref 1000000), (.ref 88)]) (h1 := (SH, s420)) rfl ?_
  obtain ⟨h422, hJ⟩ := m_gn hJ
  refine Rn_ev srtL 1034 rfl rfl rfl (op_iaL h_N h_X h422) ?_
  refine Rn_sq srtL 1035 4 (pc' := 1503) (ls' := [some (.ref 1000000), some (.ref 0), some (.ref 88), some (.int x3)]) (st' := [(.int (x3 + (ci 2))), (.ref 1000000), (.int (Lx (x3 + (ci 1)).toNatClampNeg)), (.ref 88)]) (h1 := (SH, s420)) rfl ?_
  obtain ⟨h423, hJ⟩ := m_gn hJ
  refine Rn_ev srtL 1039 rfl rfl rfl (op_iaL h_N h_X h423) ?_
  obtain ⟨v426, s425, h424, hJ⟩ := m_b2 hJ
  refine Rn_call srtL 1040 rfl rfl rfl ⟨Nat.le_of_ble_eq_true rfl, Nat.le_of_ble_eq_true rfl, rfl, Nat.le_of_ble_eq_true rfl⟩ (k_X12_away (d + 127) h424) (show Rn N xs (d + 132) meL 1507 [some (.ref 1000000), some (.ref 0), some (.ref 88), some (.int x3)] [(.int v426)] (SH, s425) r from ?_)
  refine Rn_sq srtL 1041 2 (pc' := 1586) (ls' := [some (.ref 1000000), some (.ref 0), some (.ref 88), some (.int x3)]) (st' := []) (h1 := (SH, s425)) rfl ?_
  exact (k_law_1586 LN Lx d h_N h_X hJ hC)
def F_law_1511 (LN : Nat) (Lx : Nat → Int32) (x3 : Int32) (s : mG) : Option ((Int32 × mG) ⊕ (Int32 × mG)) :=
  b2 (F_X11_undo s) fun v430 s429 =>
  b2 (F_X12_undo s429) fun v433 s432 =>
  F_law_1586 LN Lx x3 s432
set_option maxRecDepth 60000 in
theorem k_law_1511 {N : Nat} {xs : Nat → Int32} (LN : Nat) (Lx : Nat → Int32) (d : Nat) (h_N : N = LN) (h_X : xs = Lx) {r : Option Value × mH} {s : mG} {x3 : Int32} {τ : ((Int32 × mG) ⊕ (Int32 × mG))} (hJ : F_law_1511 LN Lx x3 s = some τ) (hC : (C_law_18 N xs LN Lx d r (fun τ => r = (some (.int τ.1), (SH, τ.2)))) τ) : Rn N xs (d + 132) meL 1511 [some (.ref 1000000), some (.ref 0), some (.ref 88), some (.int x3)] [] (SH, s) r := by
  unfold F_law_1511 at hJ
  refine Rn_sq srtL 1043 1 (pc' := 1512) (ls' := [some (.ref 1000000), some (.ref 0), some (.ref 88), some (.int x3)]) (st' := [(.ref 0)]) (h1 := (SH, s)) rfl ?_
  obtain ⟨v430, s429, h428, hJ⟩ := m_b2 hJ
  refine Rn_call srtL 1044 rfl rfl rfl ⟨Nat.le_of_ble_eq_true rfl, Nat.le_of_ble_eq_true rfl, rfl, Nat.le_of_ble_eq_true rfl⟩ (k_X11_undo (d + 128) h428) (show Rn N xs (d + 132) meL 1515 [some (.ref 1000000), some (.ref 0), some (.ref 88), some (.int x3)] [(.int v430)] (SH, s429) r from ?_)
  refine Rn_sq srtL 1045 2 (pc' := 1517) (ls' := [some (.ref 1000000), some (.ref 0), some (.ref 88), some (.int x3)]) (st' := [(.ref 88)]) (h1 := (SH, s429)) rfl ?_
  obtain ⟨v433, s432, h431, hJ⟩ := m_b2 hJ
  refine Rn_call srtL 1047 rfl rfl rfl ⟨Nat.le_of_ble_eq_true rfl, Nat.le_of_ble_eq_true rfl, rfl, Nat.le_of_ble_eq_true rfl⟩ (k_X12_undo (d + 131) h431) (show Rn N xs (d + 132) meL 1520 [some (.ref 1000000), some (.ref 0), some (.ref 88), some (.int x3)] [(.int v433)] (SH, s432) r from ?_)
  refine Rn_sq srtL 1048 2 (pc' := 1586) (ls' := [some (.ref 1000000), some (.ref 0), some (.ref 88), some (.int x3)]) (st' := []) (h1 := (SH, s432)) rfl ?_
  exact (k_law_1586 LN Lx d h_N h_X hJ hC)
def F_law_1556 (LN : Nat) (Lx : Nat → Int32) (x3 : Int32) (y1 : Int32) (s : mG) : Option ((Int32 × mG) ⊕ (Int32 × mG)) :=
  b2 (F_X12_image y1 s) fun v444 s443 =>
  F_law_1586 LN Lx x3 s443
set_option maxRecDepth 60000 in
theorem k_law_1556 {N : Nat} {xs : Nat → Int32} (LN : Nat) (Lx : Nat → Int32) (d : Nat) (h_N : N = LN) (h_X : xs = Lx) {r : Option Value × mH} {s : mG} {x3 : Int32} {y1 : Int32} {τ : ((Int32 × mG) ⊕ (Int32 × mG))} (hJ : F_law_1556 LN Lx x3 y1 s = some τ) (hC : (C_law_18 N xs LN Lx d r (fun τ => r = (some (.int τ.1), (SH, τ.2)))) τ) : Rn N xs (d + 132) meL 1556 [some (.ref 1000000), some (.ref 0), some (.ref 88), some (.int x3)] [(.int y1), (.ref 88)] (SH, s) r := by
  unfold F_law_1556 at hJ
  obtain ⟨v444, s443, h442, hJ⟩ := m_b2 hJ
  refine Rn_call srtL 1072 rfl rfl rfl ⟨Nat.le_of_ble_eq_true rfl, Nat.le_of_ble_eq_true rfl, rfl, Nat.le_of_ble_eq_true rfl⟩ (k_X12_image (d + 130) h442) (show Rn N xs (d + 132) meL 1559 [some (.ref 1000000), some (.ref 0), some (.ref 88), some (.int x3)] [(.int v444)] (SH, s443) r from ?_)
  refine Rn_sq srtL 1073 2 (pc' := 1586) (ls' := [some (.ref 1000000), some (.ref 0), some (.ref 88), some (.int x3)]) (st' := []) (h1 := (SH, s443)) rfl ?_
  exact (k_law_1586 LN Lx d h_N h_X hJ hC)
def F_law_1538 (LN : Nat) (Lx : Nat → Int32) (x3 : Int32) (y1 : Int32) (s : mG) : Option ((Int32 × mG) ⊕ (Int32 × mG)) :=
  b2 (F_X11_image y1 s) fun v439 s438 =>
  if (x3 + (ci 1)) < 0 ∨ LN ≤ (x3 + (ci 1)).toNatClampNeg then none else
  if (Lx (x3 + (ci 1)).toNatClampNeg) = 0 then
    F_law_1556 LN Lx x3 (ci 0) s438
  else
    F_law_1556 LN Lx x3 (ci 1) s438
set_option maxRecDepth 60000 in
theorem k_law_1538 {N : Nat} {xs : Nat → Int32} (LN : Nat) (Lx : Nat → Int32) (d : Nat) (h_N : N = LN) (h_X : xs = Lx) {r : Option Value × mH} {s : mG} {x3 : Int32} {y1 : Int32} {τ : ((Int32 × mG) ⊕ (Int32 × mG))} (hJ : F_law_1538 LN Lx x3 y1 s = some τ) (hC : (C_law_18 N xs LN Lx d r (fun τ => r = (some (.int τ.1), (SH, τ.2)))) τ) : Rn N xs (d + 132) meL 1538 [some (.ref 1000000), some (.ref 0), some (.ref 88), some (.int x3)] [(.int y1), (.ref 0)] (SH, s) r := by
  unfold F_law_1538 at hJ
  obtain ⟨v439, s438, h437, hJ⟩ := m_b2 hJ
  refine Rn_call srtL 1060 rfl rfl rfl ⟨Nat.le_of_ble_eq_true rfl, Nat.le_of_ble_eq_true rfl, rfl, Nat.le_of_ble_eq_true rfl⟩ (k_X11_image (d + 129) h437) (show Rn N xs (d + 132) meL 1541 [some (.ref 1000000), some (.ref 0), some (.ref 88), some (.int x3)] [(.int v439)] (SH, s438) r from ?_)
  refine Rn_sq srtL 1061 6 (pc' := 1547) (ls' := [some (.ref 1000000), some (.ref 0), some (.ref 88), some (.int x3)]) (st' := [(.int (x3 + (ci 1))), (.ref 1000000), (.ref 88)]) (h1 := (SH, s438)) rfl ?_
  obtain ⟨h440, hJ⟩ := m_gn hJ
  refine Rn_ev srtL 1067 rfl rfl rfl (op_iaL h_N h_X h440) ?_
  refine Rn_sq srtL 1068 1 (pc' := (if (Lx (x3 + (ci 1)).toNatClampNeg) = 0 then 1555 else 1551)) (ls' := [some (.ref 1000000), some (.ref 0), some (.ref 88), some (.int x3)]) (st' := [(.ref 88)]) (h1 := (SH, s438)) rfl (Rn_if (fun h441 => ?_) (fun h441 => ?_))
  · replace hJ := m_ifp h441 hJ
    refine Rn_sq srtL 1071 1 (pc' := 1556) (ls' := [some (.ref 1000000), some (.ref 0), some (.ref 88), some (.int x3)]) (st' := [(.int (ci 0)), (.ref 88)]) (h1 := (SH, s438)) rfl ?_
    exact (k_law_1556 LN Lx d h_N h_X hJ hC)
  · replace hJ := m_ifn h441 hJ
    refine Rn_sq srtL 1069 2 (pc' := 1556) (ls' := [some (.ref 1000000), some (.ref 0), some (.ref 88), some (.int x3)]) (st' := [(.int (ci 1)), (.ref 88)]) (h1 := (SH, s438)) rfl ?_
    exact (k_law_1556 LN Lx d h_N h_X hJ hC)
def F_law_1524 (LN : Nat) (Lx : Nat → Int32) (x3 : Int32) (s : mG) : Option ((Int32 × mG) ⊕ (Int32 × mG)) :=
  if (x3 + (ci 1)) < 0 ∨ LN ≤ (x3 + (ci 1)).toNatClampNeg then none else
  if (Lx (x3 + (ci 1)).toNatClampNeg) = 0 then
    F_law_1538 LN Lx x3 (ci 0) s
  else
    F_law_1538 LN Lx x3 (ci 1) s
set_option maxRecDepth 60000 in
theorem k_law_1524 {N : Nat} {xs : Nat → Int32} (LN : Nat) (Lx : Nat → Int32) (d : Nat) (h_N : N = LN) (h_X : xs = Lx) {r : Option Value × mH} {s : mG} {x3 : Int32} {τ : ((Int32 × mG) ⊕ (Int32 × mG))} (hJ : F_law_1524 LN Lx x3 s = some τ) (hC : (C_law_18 N xs LN Lx d r (fun τ => r = (some (.int τ.1), (SH, τ.2)))) τ) : Rn N xs (d + 132) meL 1524 [some (.ref 1000000), some (.ref 0), some (.ref 88), some (.int x3)] [] (SH, s) r := by
  unfold F_law_1524 at hJ
  refine Rn_sq srtL 1050 5 (pc' := 1529) (ls' := [some (.ref 1000000), some (.ref 0), some (.ref 88), some (.int x3)]) (st' := [(.int (x3 + (ci 1))), (.ref 1000000), (.ref 0)]) (h1 := (SH, s)) rfl ?_
  obtain ⟨h435, hJ⟩ := m_gn hJ
  refine Rn_ev srtL 1055 rfl rfl rfl (op_iaL h_N h_X h435) ?_
  refine Rn_sq srtL 1056 1 (pc' := (if (Lx (x3 + (ci 1)).toNatClampNeg) = 0 then 1537 else 1533)) (ls' := [some (.ref 1000000), some (.ref 0), some (.ref 88), some (.int x3)]) (st' := [(.ref 0)]) (h1 := (SH, s)) rfl (Rn_if (fun h436 => ?_) (fun h436 => ?_))
  · replace hJ := m_ifp h436 hJ
    refine Rn_sq srtL 1059 1 (pc' := 1538) (ls' := [some (.ref 1000000), some (.ref 0), some (.ref 88), some (.int x3)]) (st' := [(.int (ci 0)), (.ref 0)]) (h1 := (SH, s)) rfl ?_
    exact (k_law_1538 LN Lx d h_N h_X hJ hC)
  · replace hJ := m_ifn h436 hJ
    refine Rn_sq srtL 1057 2 (pc' := 1538) (ls' := [some (.ref 1000000), some (.ref 0), some (.ref 88), some (.int x3)]) (st' := [(.int (ci 1)), (.ref 0)]) (h1 := (SH, s)) rfl ?_
    exact (k_law_1538 LN Lx d h_N h_X hJ hC)
def F_law_1563 (LN : Nat) (Lx : Nat → Int32) (x3 : Int32) (s : mG) : Option ((Int32 × mG) ⊕ (Int32 × mG)) :=
  if (x3 + (ci 1)) < 0 ∨ LN ≤ (x3 + (ci 1)).toNatClampNeg then none else
  b1 (F_X11_look s (Lx (x3 + (ci 1)).toNatClampNeg)) fun v448 =>
  if (x3 + (ci 1)) < 0 ∨ LN ≤ (x3 + (ci 1)).toNatClampNeg then none else
  b1 (F_X12_look s (Lx (x3 + (ci 1)).toNatClampNeg)) fun v451 =>
  F_law_1586 LN Lx x3 s
set_option maxRecDepth 60000 in
theorem k_law_1563 {N : Nat} {xs : Nat → Int32} (LN : Nat) (Lx : Nat → Int32) (d : Nat) (h_N : N = LN) (h_X : xs = Lx) {r : Option Value × mH} {s : mG} {x3 : Int32} {τ : ((Int32 × mG) ⊕ (Int32 × mG))} (hJ : F_law_1563 LN Lx x3 s = some τ) (hC : (C_law_18 N xs LN Lx d r (fun τ => r = (some (.int τ.1), (SH, τ.2)))) τ) : Rn N xs (d + 132) meL 1563 [some (.ref 1000000), some (.ref 0), some (.ref 88), some (.int x3)] [] (SH, s) r := by
  unfold F_law_1563 at hJ
  refine Rn_sq srtL 1075 5 (pc' := 1568) (ls' := [some (.ref 1000000), some (.ref 0), some (.ref 88), some (.int x3)]) (st' := [(.int (x3 + (ci 1))), (.ref 1000000), (.ref 0)]) (h1 := (SH, s)) rfl ?_
  obtain ⟨h446, hJ⟩ := m_gn hJ
  refine Rn_ev srtL 1080 rfl rfl rfl (op_iaL h_N h_X h446) ?_
  obtain ⟨v448, h447, hJ⟩ := m_b1 hJ
  refine Rn_call srtL 1081 rfl rfl rfl ⟨Nat.le_of_ble_eq_true rfl, Nat.le_of_ble_eq_true rfl, rfl, Nat.le_of_ble_eq_true rfl⟩ (k_X11_look (d + 127) h447) (show Rn N xs (d + 132) meL 1572 [some (.ref 1000000), some (.ref 0), some (.ref 88), some (.int x3)] [(.int v448)] (SH, s) r from ?_)
  refine Rn_sq srtL 1082 6 (pc' := 1578) (ls' := [some (.ref 1000000), some (.ref 0), some (.ref 88), some (.int x3)]) (st' := [(.int (x3 + (ci 1))), (.ref 1000000), (.ref 88)]) (h1 := (SH, s)) rfl ?_
  obtain ⟨h449, hJ⟩ := m_gn hJ
  refine Rn_ev srtL 1088 rfl rfl rfl (op_iaL h_N h_X h449) ?_
  obtain ⟨v451, h450, hJ⟩ := m_b1 hJ
  refine Rn_call srtL 1089 rfl rfl rfl ⟨Nat.le_of_ble_eq_true rfl, Nat.le_of_ble_eq_true rfl, rfl, Nat.le_of_ble_eq_true rfl⟩ (k_X12_look (d + 130) h450) (show Rn N xs (d + 132) meL 1582 [some (.ref 1000000), some (.ref 0), some (.ref 88), some (.int x3)] [(.int v451)] (SH, s) r from ?_)
  refine Rn_sq srtL 1090 2 (pc' := 1586) (ls' := [some (.ref 1000000), some (.ref 0), some (.ref 88), some (.int x3)]) (st' := []) (h1 := (SH, s)) rfl ?_
  exact (k_law_1586 LN Lx d h_N h_X hJ hC)
def F_law_B18 (LN : Nat) (Lx : Nat → Int32) (x3 : Int32) (s : mG) : Option ((Int32 × mG) ⊕ (Int32 × mG)) :=
  if ((cn LN) - (c8 6)) < x3 then
    some (Sum.inr ((ci 1), s))
  else
    if x3 < 0 ∨ LN ≤ x3.toNatClampNeg then none else
    if ((Lx x3.toNatClampNeg) &&& (c8 63)) = ci 0 then
      F_law_232 LN Lx x3 s
    else
    if ((Lx x3.toNatClampNeg) &&& (c8 63)) = ci 1 then
      F_law_255 LN Lx x3 s
    else
    if ((Lx x3.toNatClampNeg) &&& (c8 63)) = ci 2 then
      F_law_288 LN Lx x3 s
    else
    if ((Lx x3.toNatClampNeg) &&& (c8 63)) = ci 3 then
      F_law_331 LN Lx x3 s
    else
    if ((Lx x3.toNatClampNeg) &&& (c8 63)) = ci 4 then
      F_law_364 LN Lx x3 s
    else
    if ((Lx x3.toNatClampNeg) &&& (c8 63)) = ci 5 then
      F_law_407 LN Lx x3 s
    else
    if ((Lx x3.toNatClampNeg) &&& (c8 63)) = ci 6 then
      F_law_430 LN Lx x3 s
    else
    if ((Lx x3.toNatClampNeg) &&& (c8 63)) = ci 7 then
      F_law_493 LN Lx x3 s
    else
    if ((Lx x3.toNatClampNeg) &&& (c8 63)) = ci 8 then
      F_law_516 LN Lx x3 s
    else
    if ((Lx x3.toNatClampNeg) &&& (c8 63)) = ci 9 then
      F_law_539 LN Lx x3 s
    else
    if ((Lx x3.toNatClampNeg) &&& (c8 63)) = ci 10 then
      F_law_562 LN Lx x3 s
    else
    if ((Lx x3.toNatClampNeg) &&& (c8 63)) = ci 11 then
      F_law_595 LN Lx x3 s
    else
    if ((Lx x3.toNatClampNeg) &&& (c8 63)) = ci 12 then
      F_law_618 LN Lx x3 s
    else
    if ((Lx x3.toNatClampNeg) &&& (c8 63)) = ci 13 then
      F_law_651 LN Lx x3 s
    else
    if ((Lx x3.toNatClampNeg) &&& (c8 63)) = ci 14 then
      F_law_684 LN Lx x3 s
    else
    if ((Lx x3.toNatClampNeg) &&& (c8 63)) = ci 15 then
      F_law_707 LN Lx x3 s
    else
    if ((Lx x3.toNatClampNeg) &&& (c8 63)) = ci 16 then
      F_law_750 LN Lx x3 s
    else
    if ((Lx x3.toNatClampNeg) &&& (c8 63)) = ci 17 then
      F_law_773 LN Lx x3 s
    else
    if ((Lx x3.toNatClampNeg) &&& (c8 63)) = ci 18 then
      F_law_806 LN Lx x3 s
    else
    if ((Lx x3.toNatClampNeg) &&& (c8 63)) = ci 19 then
      F_law_839 LN Lx x3 s
    else
    if ((Lx x3.toNatClampNeg) &&& (c8 63)) = ci 20 then
      F_law_872 LN Lx x3 s
    else
    if ((Lx x3.toNatClampNeg) &&& (c8 63)) = ci 21 then
      F_law_895 LN Lx x3 s
    else
    if ((Lx x3.toNatClampNeg) &&& (c8 63)) = ci 22 then
      F_law_908 LN Lx x3 s
    else
    if ((Lx x3.toNatClampNeg) &&& (c8 63)) = ci 23 then
      F_law_951 LN Lx x3 s
    else
    if ((Lx x3.toNatClampNeg) &&& (c8 63)) = ci 24 then
      F_law_984 LN Lx x3 s
    else
    if ((Lx x3.toNatClampNeg) &&& (c8 63)) = ci 25 then
      F_law_1017 LN Lx x3 s
    else
    if ((Lx x3.toNatClampNeg) &&& (c8 63)) = ci 26 then
      F_law_1060 LN Lx x3 s
    else
    if ((Lx x3.toNatClampNeg) &&& (c8 63)) = ci 27 then
      F_law_1083 LN Lx x3 s
    else
    if ((Lx x3.toNatClampNeg) &&& (c8 63)) = ci 28 then
      F_law_1116 LN Lx x3 s
    else
    if ((Lx x3.toNatClampNeg) &&& (c8 63)) = ci 29 then
      F_law_1139 LN Lx x3 s
    else
    if ((Lx x3.toNatClampNeg) &&& (c8 63)) = ci 30 then
      F_law_1162 LN Lx x3 s
    else
    if ((Lx x3.toNatClampNeg) &&& (c8 63)) = ci 31 then
      F_law_1185 LN Lx x3 s
    else
    if ((Lx x3.toNatClampNeg) &&& (c8 63)) = ci 32 then
      F_law_1198 LN Lx x3 s
    else
    if ((Lx x3.toNatClampNeg) &&& (c8 63)) = ci 33 then
      F_law_1221 LN Lx x3 s
    else
    if ((Lx x3.toNatClampNeg) &&& (c8 63)) = ci 34 then
      F_law_1244 LN Lx x3 s
    else
    if ((Lx x3.toNatClampNeg) &&& (c8 63)) = ci 35 then
      F_law_1277 LN Lx x3 s
    else
    if ((Lx x3.toNatClampNeg) &&& (c8 63)) = ci 36 then
      F_law_1330 LN Lx x3 s
    else
    if ((Lx x3.toNatClampNeg) &&& (c8 63)) = ci 37 then
      F_law_1353 LN Lx x3 s
    else
    if ((Lx x3.toNatClampNeg) &&& (c8 63)) = ci 38 then
      F_law_1376 LN Lx x3 s
    else
    if ((Lx x3.toNatClampNeg) &&& (c8 63)) = ci 39 then
      F_law_1409 LN Lx x3 s
    else
    if ((Lx x3.toNatClampNeg) &&& (c8 63)) = ci 40 then
      F_law_1442 LN Lx x3 s
    else
    if ((Lx x3.toNatClampNeg) &&& (c8 63)) = ci 41 then
      F_law_1465 LN Lx x3 s
    else
    if ((Lx x3.toNatClampNeg) &&& (c8 63)) = ci 42 then
      F_law_1478 LN Lx x3 s
    else
    if ((Lx x3.toNatClampNeg) &&& (c8 63)) = ci 43 then
      F_law_1511 LN Lx x3 s
    else
    if ((Lx x3.toNatClampNeg) &&& (c8 63)) = ci 44 then
      F_law_1524 LN Lx x3 s
    else
    if ((Lx x3.toNatClampNeg) &&& (c8 63)) = ci 45 then
      F_law_1563 LN Lx x3 s
    else
    F_law_1586 LN Lx x3 s
set_option maxRecDepth 60000 in
theorem k_law_B18 {N : Nat} {xs : Nat → Int32} (LN : Nat) (Lx : Nat → Int32) (d : Nat) (h_N : N = LN) (h_X : xs = Lx) {r : Option Value × mH} {s : mG} {x3 : Int32} {τ : ((Int32 × mG) ⊕ (Int32 × mG))} (hJ : F_law_B18 LN Lx x3 s = some τ) (hC : (C_law_18 N xs LN Lx d r (fun τ => r = (some (.int τ.1), (SH, τ.2)))) τ) : Rn N xs (d + 132) meL 18 [some (.ref 1000000), some (.ref 0), some (.ref 88), some (.int x3)] [] (SH, s) r := by
  unfold F_law_B18 at hJ
  refine Rn_sq srtL 10 2 (pc' := 20) (ls' := [some (.ref 1000000), some (.ref 0), some (.ref 88), some (.int x3)]) (st' := [(.ref 1000000), (.int x3)]) (h1 := (SH, s)) rfl ?_
  refine Rn_ev srtL 12 rfl rfl rfl (op_alL h_N) ?_
  refine Rn_sq srtL 13 3 (pc' := (if ((cn LN) - (c8 6)) < x3 then 1592 else 27)) (ls' := [some (.ref 1000000), some (.ref 0), some (.ref 88), some (.int x3)]) (st' := []) (h1 := (SH, s)) rfl (Rn_if (fun h1 => ?_) (fun h1 => ?_))
  · replace hJ := m_ifp h1 hJ
    refine Rn_sq srtL 1094 1 (pc' := 1593) (ls' := [some (.ref 1000000), some (.ref 0), some (.ref 88), some (.int x3)]) (st' := [(.int (ci 1))]) (h1 := (SH, s)) rfl ?_
    rw [← Option.some.inj hJ] at hC
    have hC : r = (some (.int (ci 1)), (SH, s)) := hC
    subst hC
    exact Rn_ret srtL 1095 rfl rfl (m_ret_b rfl (by decide))
  · replace hJ := m_ifn h1 hJ
    refine Rn_sq srtL 16 2 (pc' := 29) (ls' := [some (.ref 1000000), some (.ref 0), some (.ref 88), some (.int x3)]) (st' := [(.int x3), (.ref 1000000)]) (h1 := (SH, s)) rfl ?_
    obtain ⟨h2, hJ⟩ := m_gn hJ
    refine Rn_ev srtL 18 rfl rfl rfl (op_iaL h_N h_X h2) ?_
    refine Rn_sq srtL 19 2 (pc' := 33) (ls' := [some (.ref 1000000), some (.ref 0), some (.ref 88), some (.int x3)]) (st' := [(.int ((Lx x3.toNatClampNeg) &&& (c8 63)))]) (h1 := (SH, s)) rfl ?_
    by_cases h3 : ((Lx x3.toNatClampNeg) &&& (c8 63)) = ci 0
    · replace hJ := m_ifp h3 hJ
      refine Rn_ev srtL 21 rfl rfl rfl (op_sw h3 (show _ = some (232, _) from rfl)) ?_
      exact (k_law_232 LN Lx d h_N h_X hJ hC)
    replace hJ := m_ifn h3 hJ
    by_cases h12 : ((Lx x3.toNatClampNeg) &&& (c8 63)) = ci 1
    · replace hJ := m_ifp h12 hJ
      refine Rn_ev srtL 21 rfl rfl rfl (op_sw h12 (show _ = some (255, _) from rfl)) ?_
      exact (k_law_255 LN Lx d h_N h_X hJ hC)
    replace hJ := m_ifn h12 hJ
    by_cases h23 : ((Lx x3.toNatClampNeg) &&& (c8 63)) = ci 2
    · replace hJ := m_ifp h23 hJ
      refine Rn_ev srtL 21 rfl rfl rfl (op_sw h23 (show _ = some (288, _) from rfl)) ?_
      exact (k_law_288 LN Lx d h_N h_X hJ hC)
    replace hJ := m_ifn h23 hJ
    by_cases h36 : ((Lx x3.toNatClampNeg) &&& (c8 63)) = ci 3
    · replace hJ := m_ifp h36 hJ
      refine Rn_ev srtL 21 rfl rfl rfl (op_sw h36 (show _ = some (331, _) from rfl)) ?_
      exact (k_law_331 LN Lx d h_N h_X hJ hC)
    replace hJ := m_ifn h36 hJ
    by_cases h47 : ((Lx x3.toNatClampNeg) &&& (c8 63)) = ci 4
    · replace hJ := m_ifp h47 hJ
      refine Rn_ev srtL 21 rfl rfl rfl (op_sw h47 (show _ = some (364, _) from rfl)) ?_
      exact (k_law_364 LN Lx d h_N h_X hJ hC)
    replace hJ := m_ifn h47 hJ
    by_cases h60 : ((Lx x3.toNatClampNeg) &&& (c8 63)) = ci 5
    · replace hJ := m_ifp h60 hJ
      refine Rn_ev srtL 21 rfl rfl rfl (op_sw h60 (show _ = some (407, _) from rfl)) ?_
      exact (k_law_407 LN Lx d h_N h_X hJ hC)
    replace hJ := m_ifn h60 hJ
    by_cases h69 : ((Lx x3.toNatClampNeg) &&& (c8 63)) = ci 6
    · replace hJ := m_ifp h69 hJ
      refine Rn_ev srtL 21 rfl rfl rfl (op_sw h69 (show _ = some (430, _) from rfl)) ?_
      exact (k_law_430 LN Lx d h_N h_X hJ hC)
    replace hJ := m_ifn h69 hJ
    by_cases h86 : ((Lx x3.toNatClampNeg) &&& (c8 63)) = ci 7
    · replace hJ := m_ifp h86 hJ
      refine Rn_ev srtL 21 rfl rfl rfl (op_sw h86 (show _ = some (493, _) from rfl)) ?_
      exact (k_law_493 LN Lx d h_N h_X hJ hC)
    replace hJ := m_ifn h86 hJ
    by_cases h95 : ((Lx x3.toNatClampNeg) &&& (c8 63)) = ci 8
    · replace hJ := m_ifp h95 hJ
      refine Rn_ev srtL 21 rfl rfl rfl (op_sw h95 (show _ = some (516, _) from rfl)) ?_
      exact (k_law_516 LN Lx d h_N h_X hJ hC)
    replace hJ := m_ifn h95 hJ
    by_cases h104 : ((Lx x3.toNatClampNeg) &&& (c8 63)) = ci 9
    · replace hJ := m_ifp h104 hJ
      refine Rn_ev srtL 21 rfl rfl rfl (op_sw h104 (show _ = some (539, _) from rfl)) ?_
      exact (k_law_539 LN Lx d h_N h_X hJ hC)
    replace hJ := m_ifn h104 hJ
    by_cases h111 : ((Lx x3.toNatClampNeg) &&& (c8 63)) = ci 10
    · replace hJ := m_ifp h111 hJ
      refine Rn_ev srtL 21 rfl rfl rfl (op_sw h111 (show _ = some (562, _) from rfl)) ?_
      exact (k_law_562 LN Lx d h_N h_X hJ hC)
    replace hJ := m_ifn h111 hJ
    by_cases h122 : ((Lx x3.toNatClampNeg) &&& (c8 63)) = ci 11
    · replace hJ := m_ifp h122 hJ
      refine Rn_ev srtL 21 rfl rfl rfl (op_sw h122 (show _ = some (595, _) from rfl)) ?_
      exact (k_law_595 LN Lx d h_N h_X hJ hC)
    replace hJ := m_ifn h122 hJ
    by_cases h129 : ((Lx x3.toNatClampNeg) &&& (c8 63)) = ci 12
    · replace hJ := m_ifp h129 hJ
      refine Rn_ev srtL 21 rfl rfl rfl (op_sw h129 (show _ = some (618, _) from rfl)) ?_
      exact (k_law_618 LN Lx d h_N h_X hJ hC)
    replace hJ := m_ifn h129 hJ
    by_cases h138 : ((Lx x3.toNatClampNeg) &&& (c8 63)) = ci 13
    · replace hJ := m_ifp h138 hJ
      refine Rn_ev srtL 21 rfl rfl rfl (op_sw h138 (show _ = some (651, _) from rfl)) ?_
      exact (k_law_651 LN Lx d h_N h_X hJ hC)
    replace hJ := m_ifn h138 hJ
    by_cases h147 : ((Lx x3.toNatClampNeg) &&& (c8 63)) = ci 14
    · replace hJ := m_ifp h147 hJ
      refine Rn_ev srtL 21 rfl rfl rfl (op_sw h147 (show _ = some (684, _) from rfl)) ?_
      exact (k_law_684 LN Lx d h_N h_X hJ hC)
    replace hJ := m_ifn h147 hJ
    by_cases h156 : ((Lx x3.toNatClampNeg) &&& (c8 63)) = ci 15
    · replace hJ := m_ifp h156 hJ
      refine Rn_ev srtL 21 rfl rfl rfl (op_sw h156 (show _ = some (707, _) from rfl)) ?_
      exact (k_law_707 LN Lx d h_N h_X hJ hC)
    replace hJ := m_ifn h156 hJ
    by_cases h169 : ((Lx x3.toNatClampNeg) &&& (c8 63)) = ci 16
    · replace hJ := m_ifp h169 hJ
      refine Rn_ev srtL 21 rfl rfl rfl (op_sw h169 (show _ = some (750, _) from rfl)) ?_
      exact (k_law_750 LN Lx d h_N h_X hJ hC)
    replace hJ := m_ifn h169 hJ
    by_cases h178 : ((Lx x3.toNatClampNeg) &&& (c8 63)) = ci 17
    · replace hJ := m_ifp h178 hJ
      refine Rn_ev srtL 21 rfl rfl rfl (op_sw h178 (show _ = some (773, _) from rfl)) ?_
      exact (k_law_773 LN Lx d h_N h_X hJ hC)
    replace hJ := m_ifn h178 hJ
    by_cases h189 : ((Lx x3.toNatClampNeg) &&& (c8 63)) = ci 18
    · replace hJ := m_ifp h189 hJ
      refine Rn_ev srtL 21 rfl rfl rfl (op_sw h189 (show _ = some (806, _) from rfl)) ?_
      exact (k_law_806 LN Lx d h_N h_X hJ hC)
    replace hJ := m_ifn h189 hJ
    by_cases h200 : ((Lx x3.toNatClampNeg) &&& (c8 63)) = ci 19
    · replace hJ := m_ifp h200 hJ
      refine Rn_ev srtL 21 rfl rfl rfl (op_sw h200 (show _ = some (839, _) from rfl)) ?_
      exact (k_law_839 LN Lx d h_N h_X hJ hC)
    replace hJ := m_ifn h200 hJ
    by_cases h211 : ((Lx x3.toNatClampNeg) &&& (c8 63)) = ci 20
    · replace hJ := m_ifp h211 hJ
      refine Rn_ev srtL 21 rfl rfl rfl (op_sw h211 (show _ = some (872, _) from rfl)) ?_
      exact (k_law_872 LN Lx d h_N h_X hJ hC)
    replace hJ := m_ifn h211 hJ
    by_cases h220 : ((Lx x3.toNatClampNeg) &&& (c8 63)) = ci 21
    · replace hJ := m_ifp h220 hJ
      refine Rn_ev srtL 21 rfl rfl rfl (op_sw h220 (show _ = some (895, _) from rfl)) ?_
      exact (k_law_895 LN Lx d h_N h_X hJ hC)
    replace hJ := m_ifn h220 hJ
    by_cases h225 : ((Lx x3.toNatClampNeg) &&& (c8 63)) = ci 22
    · replace hJ := m_ifp h225 hJ
      refine Rn_ev srtL 21 rfl rfl rfl (op_sw h225 (show _ = some (908, _) from rfl)) ?_
      exact (k_law_908 LN Lx d h_N h_X hJ hC)
    replace hJ := m_ifn h225 hJ
    by_cases h238 : ((Lx x3.toNatClampNeg) &&& (c8 63)) = ci 23
    · replace hJ := m_ifp h238 hJ
      refine Rn_ev srtL 21 rfl rfl rfl (op_sw h238 (show _ = some (951, _) from rfl)) ?_
      exact (k_law_951 LN Lx d h_N h_X hJ hC)
    replace hJ := m_ifn h238 hJ
    by_cases h247 : ((Lx x3.toNatClampNeg) &&& (c8 63)) = ci 24
    · replace hJ := m_ifp h247 hJ
      refine Rn_ev srtL 21 rfl rfl rfl (op_sw h247 (show _ = some (984, _) from rfl)) ?_
      exact (k_law_984 LN Lx d h_N h_X hJ hC)
    replace hJ := m_ifn h247 hJ
    by_cases h256 : ((Lx x3.toNatClampNeg) &&& (c8 63)) = ci 25
    · replace hJ := m_ifp h256 hJ
      refine Rn_ev srtL 21 rfl rfl rfl (op_sw h256 (show _ = some (1017, _) from rfl)) ?_
      exact (k_law_1017 LN Lx d h_N h_X hJ hC)
    replace hJ := m_ifn h256 hJ
    by_cases h269 : ((Lx x3.toNatClampNeg) &&& (c8 63)) = ci 26
    · replace hJ := m_ifp h269 hJ
      refine Rn_ev srtL 21 rfl rfl rfl (op_sw h269 (show _ = some (1060, _) from rfl)) ?_
      exact (k_law_1060 LN Lx d h_N h_X hJ hC)
    replace hJ := m_ifn h269 hJ
    by_cases h278 : ((Lx x3.toNatClampNeg) &&& (c8 63)) = ci 27
    · replace hJ := m_ifp h278 hJ
      refine Rn_ev srtL 21 rfl rfl rfl (op_sw h278 (show _ = some (1083, _) from rfl)) ?_
      exact (k_law_1083 LN Lx d h_N h_X hJ hC)
    replace hJ := m_ifn h278 hJ
    by_cases h289 : ((Lx x3.toNatClampNeg) &&& (c8 63)) = ci 28
    · replace hJ := m_ifp h289 hJ
      refine Rn_ev srtL 21 rfl rfl rfl (op_sw h289 (show _ = some (1116, _) from rfl)) ?_
      exact (k_law_1116 LN Lx d h_N h_X hJ hC)
    replace hJ := m_ifn h289 hJ
    by_cases h298 : ((Lx x3.toNatClampNeg) &&& (c8 63)) = ci 29
    · replace hJ := m_ifp h298 hJ
      refine Rn_ev srtL 21 rfl rfl rfl (op_sw h298 (show _ = some (1139, _) from rfl)) ?_
      exact (k_law_1139 LN Lx d h_N h_X hJ hC)
    replace hJ := m_ifn h298 hJ
    by_cases h305 : ((Lx x3.toNatClampNeg) &&& (c8 63)) = ci 30
    · replace hJ := m_ifp h305 hJ
      refine Rn_ev srtL 21 rfl rfl rfl (op_sw h305 (show _ = some (1162, _) from rfl)) ?_
      exact (k_law_1162 LN Lx d h_N h_X hJ hC)
    replace hJ := m_ifn h305 hJ
    by_cases h314 : ((Lx x3.toNatClampNeg) &&& (c8 63)) = ci 31
    · replace hJ := m_ifp h314 hJ
      refine Rn_ev srtL 21 rfl rfl rfl (op_sw h314 (show _ = some (1185, _) from rfl)) ?_
      exact (k_law_1185 LN Lx d h_N h_X hJ hC)
    replace hJ := m_ifn h314 hJ
    by_cases h321 : ((Lx x3.toNatClampNeg) &&& (c8 63)) = ci 32
    · replace hJ := m_ifp h321 hJ
      refine Rn_ev srtL 21 rfl rfl rfl (op_sw h321 (show _ = some (1198, _) from rfl)) ?_
      exact (k_law_1198 LN Lx d h_N h_X hJ hC)
    replace hJ := m_ifn h321 hJ
    by_cases h330 : ((Lx x3.toNatClampNeg) &&& (c8 63)) = ci 33
    · replace hJ := m_ifp h330 hJ
      refine Rn_ev srtL 21 rfl rfl rfl (op_sw h330 (show _ = some (1221, _) from rfl)) ?_
      exact (k_law_1221 LN Lx d h_N h_X hJ hC)
    replace hJ := m_ifn h330 hJ
    by_cases h340 : ((Lx x3.toNatClampNeg) &&& (c8 63)) = ci 34
    · replace hJ := m_ifp h340 hJ
      refine Rn_ev srtL 21 rfl rfl rfl (op_sw h340 (show _ = some (1244, _) from rfl)) ?_
      exact (k_law_1244 LN Lx d h_N h_X hJ hC)
    replace hJ := m_ifn h340 hJ
    by_cases h351 : ((Lx x3.toNatClampNeg) &&& (c8 63)) = ci 35
    · replace hJ := m_ifp h351 hJ
      refine Rn_ev srtL 21 rfl rfl rfl (op_sw h351 (show _ = some (1277, _) from rfl)) ?_
      exact (k_law_1277 LN Lx d h_N h_X hJ hC)
    replace hJ := m_ifn h351 hJ
    by_cases h366 : ((Lx x3.toNatClampNeg) &&& (c8 63)) = ci 36
    · replace hJ := m_ifp h366 hJ
      refine Rn_ev srtL 21 rfl rfl rfl (op_sw h366 (show _ = some (1330, _) from rfl)) ?_
      exact (k_law_1330 LN Lx d h_N h_X hJ hC)
    replace hJ := m_ifn h366 hJ
    by_cases h373 : ((Lx x3.toNatClampNeg) &&& (c8 63)) = ci 37
    · replace hJ := m_ifp h373 hJ
      refine Rn_ev srtL 21 rfl rfl rfl (op_sw h373 (show _ = some (1353, _) from rfl)) ?_
      exact (k_law_1353 LN Lx d h_N h_X hJ hC)
    replace hJ := m_ifn h373 hJ
    by_cases h380 : ((Lx x3.toNatClampNeg) &&& (c8 63)) = ci 38
    · replace hJ := m_ifp h380 hJ
      refine Rn_ev srtL 21 rfl rfl rfl (op_sw h380 (show _ = some (1376, _) from rfl)) ?_
      exact (k_law_1376 LN Lx d h_N h_X hJ hC)
    replace hJ := m_ifn h380 hJ
    by_cases h391 : ((Lx x3.toNatClampNeg) &&& (c8 63)) = ci 39
    · replace hJ := m_ifp h391 hJ
      refine Rn_ev srtL 21 rfl rfl rfl (op_sw h391 (show _ = some (1409, _) from rfl)) ?_
      exact (k_law_1409 LN Lx d h_N h_X hJ hC)
    replace hJ := m_ifn h391 hJ
    by_cases h402 : ((Lx x3.toNatClampNeg) &&& (c8 63)) = ci 40
    · replace hJ := m_ifp h402 hJ
      refine Rn_ev srtL 21 rfl rfl rfl (op_sw h402 (show _ = some (1442, _) from rfl)) ?_
      exact (k_law_1442 LN Lx d h_N h_X hJ hC)
    replace hJ := m_ifn h402 hJ
    by_cases h409 : ((Lx x3.toNatClampNeg) &&& (c8 63)) = ci 41
    · replace hJ := m_ifp h409 hJ
      refine Rn_ev srtL 21 rfl rfl rfl (op_sw h409 (show _ = some (1465, _) from rfl)) ?_
      exact (k_law_1465 LN Lx d h_N h_X hJ hC)
    replace hJ := m_ifn h409 hJ
    by_cases h416 : ((Lx x3.toNatClampNeg) &&& (c8 63)) = ci 42
    · replace hJ := m_ifp h416 hJ
      refine Rn_ev srtL 21 rfl rfl rfl (op_sw h416 (show _ = some (1478, _) from rfl)) ?_
      exact (k_law_1478 LN Lx d h_N h_X hJ hC)
    replace hJ := m_ifn h416 hJ
    by_cases h427 : ((Lx x3.toNatClampNeg) &&& (c8 63)) = ci 43
    · replace hJ := m_ifp h427 hJ
      refine Rn_ev srtL 21 rfl rfl rfl (op_sw h427 (show _ = some (1511, _) from rfl)) ?_
      exact (k_law_1511 LN Lx d h_N h_X hJ hC)
    replace hJ := m_ifn h427 hJ
    by_cases h434 : ((Lx x3.toNatClampNeg) &&& (c8 63)) = ci 44
    · replace hJ := m_ifp h434 hJ
      refine Rn_ev srtL 21 rfl rfl rfl (op_sw h434 (show _ = some (1524, _) from rfl)) ?_
      exact (k_law_1524 LN Lx d h_N h_X hJ hC)
    replace hJ := m_ifn h434 hJ
    by_cases h445 : ((Lx x3.toNatClampNeg) &&& (c8 63)) = ci 45
    · replace hJ := m_ifp h445 hJ
      refine Rn_ev srtL 21 rfl rfl rfl (op_sw h445 (show _ = some (1563, _) from rfl)) ?_
      exact (k_law_1563 LN Lx d h_N h_X hJ hC)
    replace hJ := m_ifn h445 hJ
    refine Rn_ev srtL 21 rfl rfl rfl (op_swd (tg := 1586) (sw_out (by decide) (by decide) (by intro v hv1 hv2; rcases (show v = 0 ∨ v = 1 ∨ v = 2 ∨ v = 3 ∨ v = 4 ∨ v = 5 ∨ v = 6 ∨ v = 7 ∨ v = 8 ∨ v = 9 ∨ v = 10 ∨ v = 11 ∨ v = 12 ∨ v = 13 ∨ v = 14 ∨ v = 15 ∨ v = 16 ∨ v = 17 ∨ v = 18 ∨ v = 19 ∨ v = 20 ∨ v = 21 ∨ v = 22 ∨ v = 23 ∨ v = 24 ∨ v = 25 ∨ v = 26 ∨ v = 27 ∨ v = 28 ∨ v = 29 ∨ v = 30 ∨ v = 31 ∨ v = 32 ∨ v = 33 ∨ v = 34 ∨ v = 35 ∨ v = 36 ∨ v = 37 ∨ v = 38 ∨ v = 39 ∨ v = 40 ∨ v = 41 ∨ v = 42 ∨ v = 43 ∨ v = 44 ∨ v = 45 by omega) with rfl | rfl | rfl | rfl | rfl | rfl | rfl | rfl | rfl | rfl | rfl | rfl | rfl | rfl | rfl | rfl | rfl | rfl | rfl | rfl | rfl | rfl | rfl | rfl | rfl | rfl | rfl | rfl | rfl | rfl | rfl | rfl | rfl | rfl | rfl | rfl | rfl | rfl | rfl | rfl | rfl | rfl | rfl | rfl | rfl | rfl <;> assumption)) rfl) ?_
    exact (k_law_1586 LN Lx d h_N h_X hJ hC)
def F_law_L18 (LN : Nat) (Lx : Nat → Int32) (x3 : Int32) (s : mG) : Option (Int32 × mG) := whl (fun (v : (Int32 × mG)) => F_law_B18 LN Lx v.1 v.2) (x3, s)
theorem k_law_L18 {N : Nat} {xs : Nat → Int32} (LN : Nat) (Lx : Nat → Int32) (d : Nat) (h_N : N = LN) (h_X : xs = Lx) {r : Option Value × mH} {s : mG} {x3 : Int32} {τ : (Int32 × mG)} (hJ : F_law_L18 LN Lx x3 s = some τ) (hC : (fun τ => r = (some (.int τ.1), (SH, τ.2))) τ) : Rn N xs (d + 132) meL 18 [some (.ref 1000000), some (.ref 0), some (.ref 88), some (.int x3)] [] (SH, s) r :=
  whl_link (P := fun (v : (Int32 × mG)) => Rn N xs (d + 132) meL 18 [some (.ref 1000000), some (.ref 0), some (.ref 88), some (.int v.1)] [] (SH, v.2) r) (C := (C_law_18 N xs LN Lx d r (fun τ => r = (some (.int τ.1), (SH, τ.2))))) (fun v τ h1 h2 => k_law_B18 LN Lx d h_N h_X h1 h2) (fun _ h => h) (fun _ h => h) _ _ hJ hC
def F_law (LN : Nat) (Lx : Nat → Int32) (s : mG) : Option (Int32 × mG) :=
  F_law_L18 LN Lx (ci 0) s
set_option maxRecDepth 60000 in
theorem k_law_r {N : Nat} {xs : Nat → Int32} (LN : Nat) (Lx : Nat → Int32) (d : Nat) (h_N : N = LN) (h_X : xs = Lx) {r : Option Value × mH} {s : mG} {τ : (Int32 × mG)} (hJ : F_law LN Lx s = some τ) (hC : (fun τ => r = (some (.int τ.1), (SH, τ.2))) τ) : Rn N xs (d + 132) meL 16 [some (.ref 1000000), some (.ref 0), some (.ref 88), none] [] (SH, s) r := by
  unfold F_law at hJ
  refine Rn_sq srtL 8 2 (pc' := 18) (ls' := [some (.ref 1000000), some (.ref 0), some (.ref 88), some (.int (ci 0))]) (st' := []) (h1 := (SH, s)) rfl ?_
  exact (k_law_L18 LN Lx d h_N h_X hJ hC)
theorem k_law {N : Nat} {xs : Nat → Int32} (LN : Nat) (Lx : Nat → Int32) (d : Nat) (h_N : N = LN) (h_X : xs = Lx) {s : mG} {τ : (Int32 × mG)} (hJ : F_law LN Lx s = some τ) : Rn N xs (d + 132) meL 16 [some (.ref 1000000), some (.ref 0), some (.ref 88), none] [] (SH, s) (some (.int τ.1), (SH, τ.2)) := k_law_r LN Lx d h_N h_X hJ rfl
end
