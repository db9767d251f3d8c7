noncomputable section
/-! IsHeInModel.oneTest()Z -/
theorem srt225 : m_srt mc225 = true := by decide +kernel
def F_X12_oneTest_23 (rec : mG → Option (Int32 × mG)) (s : mG) : Option (Int32 × mG) :=
  some ((ci 0), s)
set_option maxRecDepth 4000 in
theorem k_X12_oneTest_23 {N : Nat} {xs : Nat → Int32} (rec : mG → Option (Int32 × mG)) (d : Nat) (hrec : ∀ (s : mG) (τ : Int32 × mG), rec s = some τ → Rn N xs d me225 0 [some (.ref 88), none] [] (SH, s) (some (.int τ.1), (SH, τ.2))) {r : Option Value × mH} {s : mG} {τ : (Int32 × mG)} (hJ : F_X12_oneTest_23 rec s = some τ) (hC : (fun τ => r = (some (.int τ.1), (SH, τ.2))) τ) : Rn N xs (d + 13) me225 23 [none, none] [] (SH, s) r := by
  unfold F_X12_oneTest_23 at hJ
  refine Rn_sq srt225 10 1 (pc' := 24) (ls' := [none, none]) (st' := [(.int (ci 0))]) (h1 := (SH, s)) rfl ?_
  rw [← Option.some.inj hJ] at hC
  have hC : r = (some (.int (ci 0)), (SH, s)) := hC
  subst hC
  exact Rn_ret srt225 11 rfl rfl (if_pos (by decide))
def F_X12_oneTest_78 (rec : mG → Option (Int32 × mG)) (s : mG) : Option (Int32 × mG) :=
  some ((ci 0), s)
set_option maxRecDepth 4000 in
theorem k_X12_oneTest_78 {N : Nat} {xs : Nat → Int32} (rec : mG → Option (Int32 × mG)) (d : Nat) (hrec : ∀ (s : mG) (τ : Int32 × mG), rec s = some τ → Rn N xs d me225 0 [some (.ref 88), none] [] (SH, s) (some (.int τ.1), (SH, τ.2))) {r : Option Value × mH} {s : mG} {τ : (Int32 × mG)} (hJ : F_X12_oneTest_78 rec s = some τ) (hC : (fun τ => r = (some (.int τ.1), (SH, τ.2))) τ) : Rn N xs (d + 13) me225 78 [none, none] [] (SH, s) r := by
  unfold F_X12_oneTest_78 at hJ
  refine Rn_sq srt225 38 1 (pc' := 79) (ls' := [none, none]) (st' := [(.int (ci 0))]) (h1 := (SH, s)) rfl ?_
  rw [← Option.some.inj hJ] at hC
  have hC : r = (some (.int (ci 0)), (SH, s)) := hC
  subst hC
  exact Rn_ret srt225 39 rfl rfl (if_pos (by decide))
def F_X12_oneTest_147 (rec : mG → Option (Int32 × mG)) (y0 : Int32) (s : mG) : Option (Int32 × mG) :=
  if y0 = (ci (-1)) then
    match F_X12_bad (ci 1) s with
    | none => none
    | some (v35, s34) =>
    if v35 = 0 ∨ v35 = 1 then
      some (v35, s34)
    else none
  else
    match F_X12_next0 s with
    | none => none
    | some s38 =>
    match F_X12_sumUp s38 with
    | none => none
    | some (v41, s40) =>
    if v41 = 0 then
      some ((ci 0), s40)
    else
      match F_X12_lay y0 (ci 0) s40 with
      | none => none
      | some s44 =>
      some ((ci 1), s44)
set_option maxRecDepth 4000 in
theorem k_X12_oneTest_147 {N : Nat} {xs : Nat → Int32} (rec : mG → Option (Int32 × mG)) (d : Nat) (hrec : ∀ (s : mG) (τ : Int32 × mG), rec s = some τ → Rn N xs d me225 0 [some (.ref 88), none] [] (SH, s) (some (.int τ.1), (SH, τ.2))) {r : Option Value × mH} {s : mG} {y0 : Int32} {τ : (Int32 × mG)} (hJ : F_X12_oneTest_147 rec y0 s = some τ) (hC : (fun τ => r = (some (.int τ.1), (SH, τ.2))) τ) : Rn N xs (d + 13) me225 147 [some (.ref 88), none] [(.int y0)] (SH, s) r := by
  unfold F_X12_oneTest_147 at hJ
  refine Rn_sq srt225 72 4 (pc' := (if y0 = (ci (-1)) then 153 else 159)) (ls' := [some (.ref 88), some (.int y0)]) (st' := []) (h1 := (SH, s)) rfl (Rn_if (fun h32 => ?_) (fun h32 => ?_))
  · rw [if_pos h32] at hJ
    refine Rn_sq srt225 76 2 (pc' := 155) (ls' := [some (.ref 88), some (.int y0)]) (st' := [(.int (ci 1)), (.ref 88)]) (h1 := (SH, s)) rfl ?_
    split at hJ
    · cases hJ
    rename_i v35 s34 h33
    refine Rn_call srt225 78 rfl rfl rfl ⟨Nat.le_of_ble_eq_true rfl, Nat.le_of_ble_eq_true rfl, rfl, Nat.le_of_ble_eq_true rfl⟩ (k_X12_bad (d + 12) h33) (show Rn N xs (d + 13) me225 158 [some (.ref 88), some (.int y0)] [(.int v35)] (SH, s34) r from ?_)
    split at hJ
    case isFalse => cases hJ
    rename_i h36
    rw [← Option.some.inj hJ] at hC
    have hC : r = (some (.int v35), (SH, s34)) := hC
    subst hC
    exact Rn_ret srt225 79 rfl rfl (if_pos h36)
  · rw [if_neg h32] at hJ
    refine Rn_sq srt225 80 1 (pc' := 160) (ls' := [some (.ref 88), some (.int y0)]) (st' := [(.ref 88)]) (h1 := (SH, s)) rfl ?_
    split at hJ
    · cases hJ
    rename_i s38 h37
    refine Rn_call srt225 81 rfl rfl rfl ⟨Nat.le_of_ble_eq_true rfl, Nat.le_of_ble_eq_true rfl, rfl, Nat.le_of_ble_eq_true rfl⟩ (k_X12_next0 (d + 3) h37) (show Rn N xs (d + 13) me225 163 [some (.ref 88), some (.int y0)] [] (SH, s38) r from ?_)
    refine Rn_sq srt225 82 1 (pc' := 164) (ls' := [some (.ref 88), some (.int y0)]) (st' := [(.ref 88)]) (h1 := (SH, s38)) rfl ?_
    split at hJ
    · cases hJ
    rename_i v41 s40 h39
    refine Rn_call srt225 83 rfl rfl rfl ⟨Nat.le_of_ble_eq_true rfl, Nat.le_of_ble_eq_true rfl, rfl, Nat.le_of_ble_eq_true rfl⟩ (k_X12_sumUp (d) h39) (show Rn N xs (d + 13) me225 167 [some (.ref 88), some (.int y0)] [(.int v41)] (SH, s40) r from ?_)
    refine Rn_sq srt225 84 1 (pc' := (if v41 = 0 then 170 else 172)) (ls' := [some (.ref 88), some (.int y0)]) (st' := []) (h1 := (SH, s40)) rfl (Rn_if (fun h42 => ?_) (fun h42 => ?_))
    · rw [if_pos h42] at hJ
      refine Rn_sq srt225 85 1 (pc' := 171) (ls' := [some (.ref 88), some (.int y0)]) (st' := [(.int (ci 0))]) (h1 := (SH, s40)) rfl ?_
      rw [← Option.some.inj hJ] at hC
      have hC : r = (some (.int (ci 0)), (SH, s40)) := hC
      subst hC
      exact Rn_ret srt225 86 rfl rfl (if_pos (by decide))
    · rw [if_neg h42] at hJ
      refine Rn_sq srt225 87 3 (pc' := 175) (ls' := [some (.ref 88), some (.int y0)]) (st' := [(.int (ci 0)), (.int y0), (.ref 88)]) (h1 := (SH, s40)) rfl ?_
      split at hJ
      · cases hJ
      rename_i s44 h43
      refine Rn_call srt225 90 rfl rfl rfl ⟨Nat.le_of_ble_eq_true rfl, Nat.le_of_ble_eq_true rfl, rfl, Nat.le_of_ble_eq_true rfl⟩ (k_X12_lay (d + 12) h43) (show Rn N xs (d + 13) me225 178 [some (.ref 88), some (.int y0)] [] (SH, s44) r from ?_)
      refine Rn_sq srt225 91 1 (pc' := 179) (ls' := [some (.ref 88), some (.int y0)]) (st' := [(.int (ci 1))]) (h1 := (SH, s44)) rfl ?_
      rw [← Option.some.inj hJ] at hC
      have hC : r = (some (.int (ci 1)), (SH, s44)) := hC
      subst hC
      exact Rn_ret srt225 92 rfl rfl (if_pos (by decide))
def F_X12_oneTest (rec : mG → Option (Int32 × mG)) (s : mG) : Option (Int32 × mG) :=
  if (s.1 88 17) = (c8 6) then
    match F_X12_opens s with
    | none => none
    | some (v4, s3) =>
    if v4 = 0 then
      F_X12_oneTest_23 rec s3
    else
      match rec s3 with
      | none => none
      | some (v8, s7) =>
      if v8 = 0 then
        F_X12_oneTest_23 rec s7
      else
        let s10 : mG := (mu s7.1 88 23 ((s7.1 88 23) - (ci 1)), s7.2)
        match F_X12_lay (c8 30) (ci 0) s10 with
        | none => none
        | some s12 =>
        some ((ci 1), s12)
  else
    if (s.1 88 17) = (c16 140) then
      match F_X12_opens s with
      | none => none
      | some (v16, s15) =>
      if v16 = 0 then
        F_X12_oneTest_78 rec s15
      else
        match F_X12_any rec s15 with
        | none => none
        | some (v20, s19) =>
        if v20 = 0 then
          F_X12_oneTest_78 rec s19
        else
          match F_X12_need (c16 141) s19 with
          | none => none
          | some (v24, s23) =>
          if v24 = 0 then
            F_X12_oneTest_78 rec s23
          else
            let s26 : mG := (mu s23.1 88 23 ((s23.1 88 23) - (ci 1)), s23.2)
            some ((ci 1), s26)
    else
      match F_X12_sumUp s with
      | none => none
      | some (v29, s28) =>
      if v29 = 0 then
        some ((ci 0), s28)
      else
        if (s28.1 88 17) = (c16 160) then
          F_X12_oneTest_147 rec (c8 27) s28
        else
          if (s28.1 88 17) = (c16 161) then
            F_X12_oneTest_147 rec (c8 28) s28
          else
            if (s28.1 88 17) = (c16 162) then
              F_X12_oneTest_147 rec (c8 29) s28
            else
              F_X12_oneTest_147 rec (ci (-1)) s28
set_option maxRecDepth 4000 in
theorem k_X12_oneTest_r {N : Nat} {xs : Nat → Int32} (rec : mG → Option (Int32 × mG)) (d : Nat) (hrec : ∀ (s : mG) (τ : Int32 × mG), rec s = some τ → Rn N xs d me225 0 [some (.ref 88), none] [] (SH, s) (some (.int τ.1), (SH, τ.2))) {r : Option Value × mH} {s : mG} {τ : (Int32 × mG)} (hJ : F_X12_oneTest rec s = some τ) (hC : (fun τ => r = (some (.int τ.1), (SH, τ.2))) τ) : Rn N xs (d + 13) me225 0 [some (.ref 88), none] [] (SH, s) r := by
  unfold F_X12_oneTest at hJ
  refine Rn_sq srt225 0 4 (pc' := (if (s.1 88 17) = (c8 6) then 9 else 44)) (ls' := [some (.ref 88), none]) (st' := []) (h1 := (SH, s)) rfl (Rn_if (fun h1 => ?_) (fun h1 => ?_))
  · rw [if_pos h1] at hJ
    refine Rn_sq srt225 4 1 (pc' := 10) (ls' := [some (.ref 88), none]) (st' := [(.ref 88)]) (h1 := (SH, s)) rfl ?_
    split at hJ
    · cases hJ
    rename_i v4 s3 h2
    refine Rn_call srt225 5 rfl rfl rfl ⟨Nat.le_of_ble_eq_true rfl, Nat.le_of_ble_eq_true rfl, rfl, Nat.le_of_ble_eq_true rfl⟩ (k_X12_opens (d + 2) h2) (show Rn N xs (d + 13) me225 13 [some (.ref 88), none] [(.int v4)] (SH, s3) r from ?_)
    refine Rn_sq srt225 6 1 (pc' := (if v4 = 0 then 23 else 16)) (ls' := [some (.ref 88), none]) (st' := []) (h1 := (SH, s3)) rfl (Rn_if (fun h5 => ?_) (fun h5 => ?_))
    · rw [if_pos h5] at hJ
      exact Rn_weaken (a := [none, none]) (b := [some (.ref 88), none]) trivial rfl (k_X12_oneTest_23 rec d hrec hJ hC)
    · rw [if_neg h5] at hJ
      refine Rn_sq srt225 7 1 (pc' := 17) (ls' := [some (.ref 88), none]) (st' := [(.ref 88)]) (h1 := (SH, s3)) rfl ?_
      split at hJ
      · cases hJ
      rename_i v8 s7 h6
      refine Rn_call srt225 8 rfl rfl rfl ⟨Nat.le_of_ble_eq_true rfl, Nat.le_of_ble_eq_true rfl, rfl, Nat.le_of_ble_eq_true rfl⟩ (Rn_dep 12 (hrec _ _ h6)) (show Rn N xs (d + 13) me225 20 [some (.ref 88), none] [(.int v8)] (SH, s7) r from ?_)
      refine Rn_sq srt225 9 1 (pc' := (if v8 = 0 then 23 else 25)) (ls' := [some (.ref 88), none]) (st' := []) (h1 := (SH, s7)) rfl (Rn_if (fun h9 => ?_) (fun h9 => ?_))
      · rw [if_pos h9] at hJ
        exact Rn_weaken (a := [none, none]) (b := [some (.ref 88), none]) trivial rfl (k_X12_oneTest_23 rec d hrec hJ hC)
      · rw [if_neg h9] at hJ
        extract_lets s10 at hJ
        refine Rn_sq srt225 12 9 (pc' := 39) (ls' := [some (.ref 88), none]) (st' := [(.int (ci 0)), (.int (c8 30)), (.ref 88)]) (h1 := (SH, s10)) rfl ?_
        split at hJ
        · cases hJ
        rename_i s12 h11
        refine Rn_call srt225 21 rfl rfl rfl ⟨Nat.le_of_ble_eq_true rfl, Nat.le_of_ble_eq_true rfl, rfl, Nat.le_of_ble_eq_true rfl⟩ (k_X12_lay (d + 12) h11) (show Rn N xs (d + 13) me225 42 [some (.ref 88), none] [] (SH, s12) r from ?_)
        refine Rn_sq srt225 22 1 (pc' := 43) (ls' := [some (.ref 88), none]) (st' := [(.int (ci 1))]) (h1 := (SH, s12)) rfl ?_
        rw [← Option.some.inj hJ] at hC
        have hC : r = (some (.int (ci 1)), (SH, s12)) := hC
        subst hC
        exact Rn_ret srt225 23 rfl rfl (if_pos (by decide))
  · rw [if_neg h1] at hJ
    refine Rn_sq srt225 24 4 (pc' := (if (s.1 88 17) = (c16 140) then 54 else 92)) (ls' := [some (.ref 88), none]) (st' := []) (h1 := (SH, s)) rfl (Rn_if (fun h13 => ?_) (fun h13 => ?_))
    · rw [if_pos h13] at hJ
      refine Rn_sq srt225 28 1 (pc' := 55) (ls' := [some (.ref 88), none]) (st' := [(.ref 88)]) (h1 := (SH, s)) rfl ?_
      split at hJ
      · cases hJ
      rename_i v16 s15 h14
      refine Rn_call srt225 29 rfl rfl rfl ⟨Nat.le_of_ble_eq_true rfl, Nat.le_of_ble_eq_true rfl, rfl, Nat.le_of_ble_eq_true rfl⟩ (k_X12_opens (d + 2) h14) (show Rn N xs (d + 13) me225 58 [some (.ref 88), none] [(.int v16)] (SH, s15) r from ?_)
      refine Rn_sq srt225 30 1 (pc' := (if v16 = 0 then 78 else 61)) (ls' := [some (.ref 88), none]) (st' := []) (h1 := (SH, s15)) rfl (Rn_if (fun h17 => ?_) (fun h17 => ?_))
      · rw [if_pos h17] at hJ
        exact Rn_weaken (a := [none, none]) (b := [some (.ref 88), none]) trivial rfl (k_X12_oneTest_78 rec d hrec hJ hC)
      · rw [if_neg h17] at hJ
        refine Rn_sq srt225 31 1 (pc' := 62) (ls' := [some (.ref 88), none]) (st' := [(.ref 88)]) (h1 := (SH, s15)) rfl ?_
        split at hJ
        · cases hJ
        rename_i v20 s19 h18
        refine Rn_call srt225 32 rfl rfl rfl ⟨Nat.le_of_ble_eq_true rfl, Nat.le_of_ble_eq_true rfl, rfl, Nat.le_of_ble_eq_true rfl⟩ (k_X12_any rec (d + 1) hrec h18) (show Rn N xs (d + 13) me225 65 [some (.ref 88), none] [(.int v20)] (SH, s19) r from ?_)
        refine Rn_sq srt225 33 1 (pc' := (if v20 = 0 then 78 else 68)) (ls' := [some (.ref 88), none]) (st' := []) (h1 := (SH, s19)) rfl (Rn_if (fun h21 => ?_) (fun h21 => ?_))
        · rw [if_pos h21] at hJ
          exact Rn_weaken (a := [none, none]) (b := [some (.ref 88), none]) trivial rfl (k_X12_oneTest_78 rec d hrec hJ hC)
        · rw [if_neg h21] at hJ
          refine Rn_sq srt225 34 2 (pc' := 72) (ls' := [some (.ref 88), none]) (st' := [(.int (c16 141)), (.ref 88)]) (h1 := (SH, s19)) rfl ?_
          split at hJ
          · cases hJ
          rename_i v24 s23 h22
          refine Rn_call srt225 36 rfl rfl rfl ⟨Nat.le_of_ble_eq_true rfl, Nat.le_of_ble_eq_true rfl, rfl, Nat.le_of_ble_eq_true rfl⟩ (k_X12_need (d + 2) h22) (show Rn N xs (d + 13) me225 75 [some (.ref 88), none] [(.int v24)] (SH, s23) r from ?_)
          refine Rn_sq srt225 37 1 (pc' := (if v24 = 0 then 78 else 80)) (ls' := [some (.ref 88), none]) (st' := []) (h1 := (SH, s23)) rfl (Rn_if (fun h25 => ?_) (fun h25 => ?_))
          · rw [if_pos h25] at hJ
            exact Rn_weaken (a := [none, none]) (b := [some (.ref 88), none]) trivial rfl (k_X12_oneTest_78 rec d hrec hJ hC)
          · rw [if_neg h25] at hJ
            extract_lets s26 at hJ
            refine Rn_sq srt225 40 7 (pc' := 91) (ls' := [some (.ref 88), none]) (st' := [(.int (ci 1))]) (h1 := (SH, s26)) rfl ?_
            rw [← Option.some.inj hJ] at hC
            have hC : r = (some (.int (ci 1)), (SH, s26)) := hC
            subst hC
            exact Rn_ret srt225 47 rfl rfl (if_pos (by decide))
    · rw [if_neg h13] at hJ
      refine Rn_sq srt225 48 1 (pc' := 93) (ls' := [some (.ref 88), none]) (st' := [(.ref 88)]) (h1 := (SH, s)) rfl ?_
      split at hJ
      · cases hJ
      rename_i v29 s28 h27
      refine Rn_call srt225 49 rfl rfl rfl ⟨Nat.le_of_ble_eq_true rfl, Nat.le_of_ble_eq_true rfl, rfl, Nat.le_of_ble_eq_true rfl⟩ (k_X12_sumUp (d) h27) (show Rn N xs (d + 13) me225 96 [some (.ref 88), none] [(.int v29)] (SH, s28) r from ?_)
      refine Rn_sq srt225 50 1 (pc' := (if v29 = 0 then 99 else 101)) (ls' := [some (.ref 88), none]) (st' := []) (h1 := (SH, s28)) rfl (Rn_if (fun h30 => ?_) (fun h30 => ?_))
      · rw [if_pos h30] at hJ
        refine Rn_sq srt225 51 1 (pc' := 100) (ls' := [some (.ref 88), none]) (st' := [(.int (ci 0))]) (h1 := (SH, s28)) rfl ?_
        rw [← Option.some.inj hJ] at hC
        have hC : r = (some (.int (ci 0)), (SH, s28)) := hC
        subst hC
        exact Rn_ret srt225 52 rfl rfl (if_pos (by decide))
      · rw [if_neg h30] at hJ
        refine Rn_sq srt225 53 4 (pc' := (if (s28.1 88 17) = (c16 160) then 111 else 116)) (ls' := [some (.ref 88), none]) (st' := []) (h1 := (SH, s28)) rfl (Rn_if (fun h31 => ?_) (fun h31 => ?_))
        · rw [if_pos h31] at hJ
          refine Rn_sq srt225 57 2 (pc' := 147) (ls' := [some (.ref 88), none]) (st' := [(.int (c8 27))]) (h1 := (SH, s28)) rfl ?_
          exact (k_X12_oneTest_147 rec d hrec hJ hC)
        · rw [if_neg h31] at hJ
          refine Rn_sq srt225 59 4 (pc' := (if (s28.1 88 17) = (c16 161) then 126 else 131)) (ls' := [some (.ref 88), none]) (st' := []) (h1 := (SH, s28)) rfl (Rn_if (fun h45 => ?_) (fun h45 => ?_))
          · rw [if_pos h45] at hJ
            refine Rn_sq srt225 63 2 (pc' := 147) (ls' := [some (.ref 88), none]) (st' := [(.int (c8 28))]) (h1 := (SH, s28)) rfl ?_
            exact (k_X12_oneTest_147 rec d hrec hJ hC)
          · rw [if_neg h45] at hJ
            refine Rn_sq srt225 65 4 (pc' := (if (s28.1 88 17) = (c16 162) then 141 else 146)) (ls' := [some (.ref 88), none]) (st' := []) (h1 := (SH, s28)) rfl (Rn_if (fun h46 => ?_) (fun h46 => ?_))
            · rw [if_pos h46] at hJ
              refine Rn_sq srt225 69 2 (pc' := 147) (ls' := [some (.ref 88), none]) (st' := [(.int (c8 29))]) (h1 := (SH, s28)) rfl ?_
              exact (k_X12_oneTest_147 rec d hrec hJ hC)
            · rw [if_neg h46] at hJ
              refine Rn_sq srt225 71 1 (pc' := 147) (ls' := [some (.ref 88), none]) (st' := [(.int (ci (-1)))]) (h1 := (SH, s28)) rfl ?_
              exact (k_X12_oneTest_147 rec d hrec hJ hC)
theorem k_X12_oneTest {N : Nat} {xs : Nat → Int32} (rec : mG → Option (Int32 × mG)) (d : Nat) (hrec : ∀ (s : mG) (τ : Int32 × mG), rec s = some τ → Rn N xs d me225 0 [some (.ref 88), none] [] (SH, s) (some (.int τ.1), (SH, τ.2))) {s : mG} {τ : (Int32 × mG)} (hJ : F_X12_oneTest rec s = some τ) : Rn N xs (d + 13) me225 0 [some (.ref 88), none] [] (SH, s) (some (.int τ.1), (SH, τ.2)) := k_X12_oneTest_r rec d hrec hJ rfl
/-! IsHeInModel.aLine()Z -/
theorem srt226 : m_srt mc226 = true := by decide +kernel
def F_X12_aLine_123 (s : mG) : Option (Int32 × mG) :=
  if (((ci 4) * (s.1 88 12)) + (ci 2)) < 0 ∨ 64 ≤ (((ci 4) * (s.1 88 12)) + (ci 2)).toNatClampNeg then none else
  let s34 : mG := (mu s.1 92 (((ci 4) * (s.1 88 12)) + (ci 2)).toNatClampNeg (s.1 88 13), s.2)
  match F_X12_need (c16 159) s34 with
  | none => none
  | some (v37, s36) =>
  if v37 = 0 ∨ v37 = 1 then
    some (v37, s36)
  else none
set_option maxRecDepth 4000 in
theorem k_X12_aLine_123 {N : Nat} {xs : Nat → Int32} (d : Nat) {r : Option Value × mH} {s : mG} {τ : (Int32 × mG)} (hJ : F_X12_aLine_123 s = some τ) (hC : (fun τ => r = (some (.int τ.1), (SH, τ.2))) τ) : Rn N xs (d + 13) me226 123 [some (.ref 88)] [] (SH, s) r := by
  unfold F_X12_aLine_123 at hJ
  refine Rn_sq srt226 70 10 (pc' := 139) (ls' := [some (.ref 88)]) (st' := [(.int (s.1 88 13)), (.int (((ci 4) * (s.1 88 12)) + (ci 2))), (.ref 92)]) (h1 := (SH, s)) rfl ?_
  split at hJ
  · cases hJ
  rename_i h33
  extract_lets s34 at hJ
  refine Rn_ev srt226 80 rfl rfl rfl (op_ias sh92 h33 (k := (((ci 4) * (s.1 88 12)) + (ci 2)).toNatClampNeg) rfl) ?_
  refine Rn_sq srt226 81 2 (pc' := 144) (ls' := [some (.ref 88)]) (st' := [(.int (c16 159)), (.ref 88)]) (h1 := (SH, s34)) rfl ?_
  split at hJ
  · cases hJ
  rename_i v37 s36 h35
  refine Rn_call srt226 83 rfl rfl rfl ⟨Nat.le_of_ble_eq_true rfl, Nat.le_of_ble_eq_true rfl, rfl, Nat.le_of_ble_eq_true rfl⟩ (k_X12_need (d + 2) h35) (show Rn N xs (d + 13) me226 147 [some (.ref 88)] [(.int v37)] (SH, s36) r from ?_)
  split at hJ
  case isFalse => cases hJ
  rename_i h38
  rw [← Option.some.inj hJ] at hC
  have hC : r = (some (.int v37), (SH, s36)) := hC
  subst hC
  exact Rn_ret srt226 84 rfl rfl (if_pos h38)
def F_X12_aLine (s : mG) : Option (Int32 × mG) :=
  match F_X12_isIn s (s.1 88 17) (c8 20) (c8 25) with
  | none => none
  | some v2 =>
  if v2 = 0 then
    match F_X12_bad (ci 1) s with
    | none => none
    | some (v6, s5) =>
    if v6 = 0 ∨ v6 = 1 then
      some (v6, s5)
    else none
  else
    if (s.1 88 12) = (c8 16) then
      match F_X12_bad (ci 3) s with
      | none => none
      | some (v11, s10) =>
      if v11 = 0 ∨ v11 = 1 then
        some (v11, s10)
      else none
    else
      let s13 : mG := (mu s.1 88 23 (ci 0), s.2)
      if (((ci 4) * (s13.1 88 12)) + (ci 3)) < 0 ∨ 64 ≤ (((ci 4) * (s13.1 88 12)) + (ci 3)).toNatClampNeg then none else
      let s15 : mG := (mu s13.1 92 (((ci 4) * (s13.1 88 12)) + (ci 3)).toNatClampNeg (s13.1 88 17), s13.2)
      match F_X12_next0 s15 with
      | none => none
      | some s17 =>
      if ((ci 4) * (s17.1 88 12)) < 0 ∨ 64 ≤ ((ci 4) * (s17.1 88 12)).toNatClampNeg then none else
      let s19 : mG := (mu s17.1 92 ((ci 4) * (s17.1 88 12)).toNatClampNeg (s17.1 88 13), s17.2)
      match F_X12_sumUp s19 with
      | none => none
      | some (v22, s21) =>
      if v22 = 0 then
        some ((ci 0), s21)
      else
        if (((ci 4) * (s21.1 88 12)) + (ci 1)) < 0 ∨ 64 ≤ (((ci 4) * (s21.1 88 12)) + (ci 1)).toNatClampNeg then none else
        let s25 : mG := (mu s21.1 92 (((ci 4) * (s21.1 88 12)) + (ci 1)).toNatClampNeg (s21.1 88 13), s21.2)
        if (s25.1 88 17) = (ci 3) then
          match F_X12_next0 s25 with
          | none => none
          | some s28 =>
          match F_X12_any rec s28 with
          | none => none
          | some (v31, s30) =>
          if v31 = 0 then
            some ((ci 0), s30)
          else
            F_X12_aLine_123 s30
        else
          F_X12_aLine_123 s25
set_option maxRecDepth 4000 in
theorem k_X12_aLine_r {N : Nat} {xs : Nat → Int32} (d : Nat) {r : Option Value × mH} {s : mG} {τ : (Int32 × mG)} (hJ : F_X12_aLine s = some τ) (hC : (fun τ => r = (some (.int τ.1), (SH, τ.2))) τ) : Rn N xs (d + 13) me226 0 [some (.ref 88)] [] (SH, s) r := by
  unfold F_X12_aLine at hJ
  refine Rn_sq srt226 0 4 (pc' := 8) (ls' := [some (.ref 88)]) (st' := [(.int (c8 25)), (.int (c8 20)), (.int (s.1 88 17))]) (h1 := (SH, s)) rfl ?_
  split at hJ
  · cases hJ
  rename_i v2 h1
  refine Rn_call srt226 4 rfl rfl rfl ⟨Nat.le_of_ble_eq_true rfl, Nat.le_of_ble_eq_true rfl, rfl, Nat.le_of_ble_eq_true rfl⟩ (k_X12_isIn (d + 12) h1) (show Rn N xs (d + 13) me226 11 [some (.ref 88)] [(.int v2)] (SH, s) r from ?_)
  refine Rn_sq srt226 5 1 (pc' := (if v2 = 0 then 14 else 20)) (ls' := [some (.ref 88)]) (st' := []) (h1 := (SH, s)) rfl (Rn_if (fun h3 => ?_) (fun h3 => ?_))
  · rw [if_pos h3] at hJ
    refine Rn_sq srt226 6 2 (pc' := 16) (ls' := [some (.ref 88)]) (st' := [(.int (ci 1)), (.ref 88)]) (h1 := (SH, s)) rfl ?_
    split at hJ
    · cases hJ
    rename_i v6 s5 h4
    refine Rn_call srt226 8 rfl rfl rfl ⟨Nat.le_of_ble_eq_true rfl, Nat.le_of_ble_eq_true rfl, rfl, Nat.le_of_ble_eq_true rfl⟩ (k_X12_bad (d + 12) h4) (show Rn N xs (d + 13) me226 19 [some (.ref 88)] [(.int v6)] (SH, s5) r from ?_)
    split at hJ
    case isFalse => cases hJ
    rename_i h7
    rw [← Option.some.inj hJ] at hC
    have hC : r = (some (.int v6), (SH, s5)) := hC
    subst hC
    exact Rn_ret srt226 9 rfl rfl (if_pos h7)
  · rw [if_neg h3] at hJ
    refine Rn_sq srt226 10 4 (pc' := (if (s.1 88 12) = (c8 16) then 29 else 35)) (ls' := [some (.ref 88)]) (st' := []) (h1 := (SH, s)) rfl (Rn_if (fun h8 => ?_) (fun h8 => ?_))
    · rw [if_pos h8] at hJ
      refine Rn_sq srt226 14 2 (pc' := 31) (ls' := [some (.ref 88)]) (st' := [(.int (ci 3)), (.ref 88)]) (h1 := (SH, s)) rfl ?_
      split at hJ
      · cases hJ
      rename_i v11 s10 h9
      refine Rn_call srt226 16 rfl rfl rfl ⟨Nat.le_of_ble_eq_true rfl, Nat.le_of_ble_eq_true rfl, rfl, Nat.le_of_ble_eq_true rfl⟩ (k_X12_bad (d + 12) h9) (show Rn N xs (d + 13) me226 34 [some (.ref 88)] [(.int v11)] (SH, s10) r from ?_)
      split at hJ
      case isFalse => cases hJ
      rename_i h12
      rw [← Option.some.inj hJ] at hC
      have hC : r = (some (.int v11), (SH, s10)) := hC
      subst hC
      exact Rn_ret srt226 17 rfl rfl (if_pos h12)
    · rw [if_neg h8] at hJ
      extract_lets s13 at hJ
      refine Rn_sq srt226 18 13 (pc' := 56) (ls' := [some (.ref 88)]) (st' := [(.int (s13.1 88 17)), (.int (((ci 4) * (s13.1 88 12)) + (ci 3))), (.ref 92)]) (h1 := (SH, s13)) rfl ?_
      split at hJ
      · cases hJ
      rename_i h14
      extract_lets s15 at hJ
      refine Rn_ev srt226 31 rfl rfl rfl (op_ias sh92 h14 (k := (((ci 4) * (s13.1 88 12)) + (ci 3)).toNatClampNeg) rfl) ?_
      refine Rn_sq srt226 32 1 (pc' := 58) (ls' := [some (.ref 88)]) (st' := [(.ref 88)]) (h1 := (SH, s15)) rfl ?_
      split at hJ
      · cases hJ
      rename_i s17 h16
      refine Rn_call srt226 33 rfl rfl rfl ⟨Nat.le_of_ble_eq_true rfl, Nat.le_of_ble_eq_true rfl, rfl, Nat.le_of_ble_eq_true rfl⟩ (k_X12_next0 (d + 3) h16) (show Rn N xs (d + 13) me226 61 [some (.ref 88)] [] (SH, s17) r from ?_)
      refine Rn_sq srt226 34 8 (pc' := 75) (ls' := [some (.ref 88)]) (st' := [(.int (s17.1 88 13)), (.int ((ci 4) * (s17.1 88 12))), (.ref 92)]) (h1 := (SH, s17)) rfl ?_
      split at hJ
      · cases hJ
      rename_i h18
      extract_lets s19 at hJ
      refine Rn_ev srt226 42 rfl rfl rfl (op_ias sh92 h18 (k := ((ci 4) * (s17.1 88 12)).toNatClampNeg) rfl) ?_
      refine Rn_sq srt226 43 1 (pc' := 77) (ls' := [some (.ref 88)]) (st' := [(.ref 88)]) (h1 := (SH, s19)) rfl ?_
      split at hJ
      · cases hJ
      rename_i v22 s21 h20
      refine Rn_call srt226 44 rfl rfl rfl ⟨Nat.le_of_ble_eq_true rfl, Nat.le_of_ble_eq_true rfl, rfl, Nat.le_of_ble_eq_true rfl⟩ (k_X12_sumUp (d) h20) (show Rn N xs (d + 13) me226 80 [some (.ref 88)] [(.int v22)] (SH, s21) r from ?_)
      refine Rn_sq srt226 45 1 (pc' := (if v22 = 0 then 83 else 85)) (ls' := [some (.ref 88)]) (st' := []) (h1 := (SH, s21)) rfl (Rn_if (fun h23 => ?_) (fun h23 => ?_))
      · rw [if_pos h23] at hJ
        refine Rn_sq srt226 46 1 (pc' := 84) (ls' := [some (.ref 88)]) (st' := [(.int (ci 0))]) (h1 := (SH, s21)) rfl ?_
        rw [← Option.some.inj hJ] at hC
        have hC : r = (some (.int (ci 0)), (SH, s21)) := hC
        subst hC
        exact Rn_ret srt226 47 rfl rfl (if_pos (by decide))
      · rw [if_neg h23] at hJ
        refine Rn_sq srt226 48 10 (pc' := 101) (ls' := [some (.ref 88)]) (st' := [(.int (s21.1 88 13)), (.int (((ci 4) * (s21.1 88 12)) + (ci 1))), (.ref 92)]) (h1 := (SH, s21)) rfl ?_
        split at hJ
        · cases hJ
        rename_i h24
        extract_lets s25 at hJ
        refine Rn_ev srt226 58 rfl rfl rfl (op_ias sh92 h24 (k := (((ci 4) * (s21.1 88 12)) + (ci 1)).toNatClampNeg) rfl) ?_
        refine Rn_sq srt226 59 4 (pc' := (if (s25.1 88 17) = (ci 3) then 110 else 123)) (ls' := [some (.ref 88)]) (st' := []) (h1 := (SH, s25)) rfl (Rn_if (fun h26 => ?_) (fun h26 => ?_))
        · rw [if_pos h26] at hJ
          refine Rn_sq srt226 63 1 (pc' := 111) (ls' := [some (.ref 88)]) (st' := [(.ref 88)]) (h1 := (SH, s25)) rfl ?_
          split at hJ
          · cases hJ
          rename_i s28 h27
          refine Rn_call srt226 64 rfl rfl rfl ⟨Nat.le_of_ble_eq_true rfl, Nat.le_of_ble_eq_true rfl, rfl, Nat.le_of_ble_eq_true rfl⟩ (k_X12_next0 (d + 3) h27) (show Rn N xs (d + 13) me226 114 [some (.ref 88)] [] (SH, s28) r from ?_)
          refine Rn_sq srt226 65 1 (pc' := 115) (ls' := [some (.ref 88)]) (st' := [(.ref 88)]) (h1 := (SH, s28)) rfl ?_
          split at hJ
          · cases hJ
          rename_i v31 s30 h29
          refine Rn_call srt226 66 rfl rfl rfl ⟨Nat.le_of_ble_eq_true rfl, Nat.le_of_ble_eq_true rfl, rfl, Nat.le_of_ble_eq_true rfl⟩ (k_X12_any rec (d + 1) hrec h29) (show Rn N xs (d + 13) me226 118 [some (.ref 88)] [(.int v31)] (SH, s30) r from ?_)
          refine Rn_sq srt226 67 1 (pc' := (if v31 = 0 then 121 else 123)) (ls' := [some (.ref 88)]) (st' := []) (h1 := (SH, s30)) rfl (Rn_if (fun h32 => ?_) (fun h32 => ?_))
          · rw [if_pos h32] at hJ
            refine Rn_sq srt226 68 1 (pc' := 122) (ls' := [some (.ref 88)]) (st' := [(.int (ci 0))]) (h1 := (SH, s30)) rfl ?_
            rw [← Option.some.inj hJ] at hC
            have hC : r = (some (.int (ci 0)), (SH, s30)) := hC
            subst hC
            exact Rn_ret srt226 69 rfl rfl (if_pos (by decide))
          · rw [if_neg h32] at hJ
            exact (k_X12_aLine_123 d hJ hC)
        · rw [if_neg h26] at hJ
          exact (k_X12_aLine_123 d hJ hC)
theorem k_X12_aLine {N : Nat} {xs : Nat → Int32} (d : Nat) {s : mG} {τ : (Int32 × mG)} (hJ : F_X12_aLine s = some τ) : Rn N xs (d + 13) me226 0 [some (.ref 88)] [] (SH, s) (some (.int τ.1), (SH, τ.2)) := k_X12_aLine_r d hJ rfl
/-! IsHeInModel.readsLaw()Z -/
theorem srt227 : m_srt mc227 = true := by decide +kernel
def C_X12_readsLaw_12 (N : Nat) (xs : Nat → Int32) (d : Nat) (r : Option Value × mH) (C : (Int32 × mG) → Prop) : ((Int32 × mG) ⊕ (Int32 × mG)) → Prop
  | .inl v => Rn N xs (d + 14) me227 12 [some (.ref 88), some (.int v.1)] [] (SH, v.2) r
  | .inr a => C a
def F_X12_readsLaw_49 (x1 : Int32) (s : mG) : Option (Int32 × mG) :=
  if x1 = 0 ∨ x1 = 1 then
    some (x1, s)
  else none
set_option maxRecDepth 4000 in
theorem k_X12_readsLaw_49 {N : Nat} {xs : Nat → Int32} (d : Nat) {r : Option Value × mH} {s : mG} {x1 : Int32} {τ : (Int32 × mG)} (hJ : F_X12_readsLaw_49 x1 s = some τ) (hC : (fun τ => r = (some (.int τ.1), (SH, τ.2))) τ) : Rn N xs (d + 14) me227 49 [none, some (.int x1)] [] (SH, s) r := by
  unfold F_X12_readsLaw_49 at hJ
  refine Rn_sq srt227 27 1 (pc' := 50) (ls' := [none, some (.int x1)]) (st' := [(.int x1)]) (h1 := (SH, s)) rfl ?_
  split at hJ
  case isFalse => cases hJ
  rename_i h4
  rw [← Option.some.inj hJ] at hC
  have hC : r = (some (.int x1), (SH, s)) := hC
  subst hC
  exact Rn_ret srt227 28 rfl rfl (if_pos h4)
def F_X12_readsLaw_42 (x1 : Int32) (y1 : Int32) (y2 : Int32) (s : mG) : Option ((Int32 × mG) ⊕ (Int32 × mG)) :=
  let s10 : mG := (mu s.1 88 12 (y1 + y2), s.2)
  some (Sum.inl (x1, s10))
set_option maxRecDepth 4000 in
theorem k_X12_readsLaw_42 {N : Nat} {xs : Nat → Int32} (d : Nat) {r : Option Value × mH} {s : mG} {x1 : Int32} {y1 : Int32} {y2 : Int32} {τ : ((Int32 × mG) ⊕ (Int32 × mG))} (hJ : F_X12_readsLaw_42 x1 y1 y2 s = some τ) (hC : (C_X12_readsLaw_12 N xs d r (fun τ => r = (some (.int τ.1), (SH, τ.2)))) τ) : Rn N xs (d + 14) me227 42 [some (.ref 88), some (.int x1)] [(.int y2), (.int y1), (.ref 88)] (SH, s) r := by
  unfold F_X12_readsLaw_42 at hJ
  extract_lets s10 at hJ
  refine Rn_sq srt227 24 3 (pc' := 12) (ls' := [some (.ref 88), some (.int x1)]) (st' := []) (h1 := (SH, s10)) rfl ?_
  rw [← Option.some.inj hJ] at hC
  exact hC
def F_X12_readsLaw_B12 (x1 : Int32) (s : mG) : Option ((Int32 × mG) ⊕ (Int32 × mG)) :=
  if x1 = 0 then
    match F_X12_readsLaw_49 x1 s with
    | none => none
    | some τ => some (Sum.inr τ)
  else
    if (s.1 88 17) = 0 then
      match F_X12_readsLaw_49 x1 s with
      | none => none
      | some τ => some (Sum.inr τ)
    else
      match F_X12_aLine s with
      | none => none
      | some (v8, s7) =>
      if v8 = 0 then
        F_X12_readsLaw_42 v8 (s7.1 88 12) (ci 0) s7
      else
        F_X12_readsLaw_42 v8 (s7.1 88 12) (ci 1) s7
set_option maxRecDepth 4000 in
theorem k_X12_readsLaw_B12 {N : Nat} {xs : Nat → Int32} (d : Nat) {r : Option Value × mH} {s : mG} {x1 : Int32} {τ : ((Int32 × mG) ⊕ (Int32 × mG))} (hJ : F_X12_readsLaw_B12 x1 s = some τ) (hC : (C_X12_readsLaw_12 N xs d r (fun τ => r = (some (.int τ.1), (SH, τ.2)))) τ) : Rn N xs (d + 14) me227 12 [some (.ref 88), some (.int x1)] [] (SH, s) r := by
  unfold F_X12_readsLaw_B12 at hJ
  refine Rn_sq srt227 8 2 (pc' := (if x1 = 0 then 49 else 16)) (ls' := [some (.ref 88), some (.int x1)]) (st' := []) (h1 := (SH, s)) rfl (Rn_if (fun h3 => ?_) (fun h3 => ?_))
  · rw [if_pos h3] at hJ
    split at hJ
    · cases hJ
    · next τ1 hJ1 =>
      rw [← Option.some.inj hJ] at hC
      exact Rn_weaken (a := [none, some (.int x1)]) (b := [some (.ref 88), some (.int x1)]) (And.intro rfl trivial) rfl (k_X12_readsLaw_49 d hJ1 hC)
  · rw [if_neg h3] at hJ
    refine Rn_sq srt227 10 3 (pc' := (if (s.1 88 17) = 0 then 49 else 23)) (ls' := [some (.ref 88), some (.int x1)]) (st' := []) (h1 := (SH, s)) rfl (Rn_if (fun h5 => ?_) (fun h5 => ?_))
    · rw [if_pos h5] at hJ
      split at hJ
      · cases hJ
      · next τ1 hJ1 =>
        rw [← Option.some.inj hJ] at hC
        exact Rn_weaken (a := [none, some (.int x1)]) (b := [some (.ref 88), some (.int x1)]) (And.intro rfl trivial) rfl (k_X12_readsLaw_49 d hJ1 hC)
    · rw [if_neg h5] at hJ
      refine Rn_sq srt227 13 1 (pc' := 24) (ls' := [some (.ref 88), some (.int x1)]) (st' := [(.ref 88)]) (h1 := (SH, s)) rfl ?_
      split at hJ
      · cases hJ
      rename_i v8 s7 h6
      refine Rn_call srt227 14 rfl rfl rfl ⟨Nat.le_of_ble_eq_true rfl, Nat.le_of_ble_eq_true rfl, rfl, Nat.le_of_ble_eq_true rfl⟩ (k_X12_aLine (d) h6) (show Rn N xs (d + 14) me227 27 [some (.ref 88), some (.int x1)] [(.int v8)] (SH, s7) r from ?_)
      refine Rn_sq srt227 15 6 (pc' := (if v8 = 0 then 41 else 37)) (ls' := [some (.ref 88), some (.int v8)]) (st' := [(.int (s7.1 88 12)), (.ref 88)]) (h1 := (SH, s7)) rfl (Rn_if (fun h9 => ?_) (fun h9 => ?_))
      · rw [if_pos h9] at hJ
        refine Rn_sq srt227 23 1 (pc' := 42) (ls' := [some (.ref 88), some (.int v8)]) (st' := [(.int (ci 0)), (.int (s7.1 88 12)), (.ref 88)]) (h1 := (SH, s7)) rfl ?_
        exact (k_X12_readsLaw_42 d hJ hC)
      · rw [if_neg h9] at hJ
        refine Rn_sq srt227 21 2 (pc' := 42) (ls' := [some (.ref 88), some (.int v8)]) (st' := [(.int (ci 1)), (.int (s7.1 88 12)), (.ref 88)]) (h1 := (SH, s7)) rfl ?_
        exact (k_X12_readsLaw_42 d hJ hC)
def F_X12_readsLaw_L12 (x1 : Int32) (s : mG) : Option (Int32 × mG) := whl (fun (v : (Int32 × mG)) => F_X12_readsLaw_B12 v.1 v.2) (x1, s)
theorem k_X12_readsLaw_L12 {N : Nat} {xs : Nat → Int32} (d : Nat) {r : Option Value × mH} {s : mG} {x1 : Int32} {τ : (Int32 × mG)} (hJ : F_X12_readsLaw_L12 x1 s = some τ) (hC : (fun τ => r = (some (.int τ.1), (SH, τ.2))) τ) : Rn N xs (d + 14) me227 12 [some (.ref 88), some (.int x1)] [] (SH, s) r :=
  whl_link (P := fun (v : (Int32 × mG)) => Rn N xs (d + 14) me227 12 [some (.ref 88), some (.int v.1)] [] (SH, v.2) r) (C := (C_X12_readsLaw_12 N xs d r (fun τ => r = (some (.int τ.1), (SH, τ.2))))) (fun v τ h1 h2 => k_X12_readsLaw_B12 d h1 h2) (fun _ h => h) (fun _ h => h) _ _ hJ hC
def F_X12_readsLaw (s : mG) : Option (Int32 × mG) :=
  let s1 : mG := (mu s.1 88 12 (ci 0), s.2)
  let s2 : mG := (mu s1.1 88 13 (ci 0), s1.2)
  F_X12_readsLaw_L12 (ci 1) s2
set_option maxRecDepth 4000 in
theorem k_X12_readsLaw_r {N : Nat} {xs : Nat → Int32} (d : Nat) {r : Option Value × mH} {s : mG} {τ : (Int32 × mG)} (hJ : F_X12_readsLaw s = some τ) (hC : (fun τ => r = (some (.int τ.1), (SH, τ.2))) τ) : Rn N xs (d + 14) me227 0 [some (.ref 88), none] [] (SH, s) r := by
  unfold F_X12_readsLaw at hJ
  extract_lets s1 at hJ
  extract_lets s2 at hJ
  refine Rn_sq srt227 0 8 (pc' := 12) (ls' := [some (.ref 88), some (.int (ci 1))]) (st' := []) (h1 := (SH, s2)) rfl ?_
  exact (k_X12_readsLaw_L12 d hJ hC)
theorem k_X12_readsLaw {N : Nat} {xs : Nat → Int32} (d : Nat) {s : mG} {τ : (Int32 × mG)} (hJ : F_X12_readsLaw s = some τ) : Rn N xs (d + 14) me227 0 [some (.ref 88), none] [] (SH, s) (some (.int τ.1), (SH, τ.2)) := k_X12_readsLaw_r d hJ rfl
/-! IsHeInModel.number(II)Z -/
theorem srt228 : m_srt mc228 = true := by decide +kernel
def F_X12_number (a1 : Int32) (a2 : Int32) (s : mG) : Option (Int32 × mG) :=
  if (s.1 88 17) = (ci 2) then
    match F_X12_isIn s (s.1 88 19) a1 a2 with
    | none => none
    | some v3 =>
    if v3 = 0 then
      match F_X12_bad (ci 2) s with
      | none => none
      | some (v7, s6) =>
      if v7 = 0 ∨ v7 = 1 then
        some (v7, s6)
      else none
    else
      let s9 : mG := (mu s.1 88 25 (s.1 88 19), s.2)
      match F_X12_next0 s9 with
      | none => none
      | some s11 =>
      some ((ci 1), s11)
  else
    match F_X12_bad (ci 1) s with
    | none => none
    | some (v14, s13) =>
    if v14 = 0 ∨ v14 = 1 then
      some (v14, s13)
    else none
set_option maxRecDepth 4000 in
theorem k_X12_number_r {N : Nat} {xs : Nat → Int32} (d : Nat) {r : Option Value × mH} {s : mG} {a1 : Int32} {a2 : Int32} {τ : (Int32 × mG)} (hJ : F_X12_number a1 a2 s = some τ) (hC : (fun τ => r = (some (.int τ.1), (SH, τ.2))) τ) : Rn N xs (d + 10) me228 0 [some (.ref 88), some (.int a1), some (.int a2)] [] (SH, s) r := by
  unfold F_X12_number at hJ
  refine Rn_sq srt228 0 4 (pc' := (if (s.1 88 17) = (ci 2) then 14 else 8)) (ls' := [some (.ref 88), some (.int a1), some (.int a2)]) (st' := []) (h1 := (SH, s)) rfl (Rn_if (fun h1 => ?_) (fun h1 => ?_))
  · rw [if_pos h1] at hJ
    refine Rn_sq srt228 8 4 (pc' := 20) (ls' := [some (.ref 88), some (.int a1), some (.int a2)]) (st' := [(.int a2), (.int a1), (.int (s.1 88 19))]) (h1 := (SH, s)) rfl ?_
    split at hJ
    · cases hJ
    rename_i v3 h2
    refine Rn_call srt228 12 rfl rfl rfl ⟨Nat.le_of_ble_eq_true rfl, Nat.le_of_ble_eq_true rfl, rfl, Nat.le_of_ble_eq_true rfl⟩ (k_X12_isIn (d + 9) h2) (show Rn N xs (d + 10) me228 23 [some (.ref 88), some (.int a1), some (.int a2)] [(.int v3)] (SH, s) r from ?_)
    refine Rn_sq srt228 13 1 (pc' := (if v3 = 0 then 26 else 32)) (ls' := [some (.ref 88), some (.int a1), some (.int a2)]) (st' := []) (h1 := (SH, s)) rfl (Rn_if (fun h4 => ?_) (fun h4 => ?_))
    · rw [if_pos h4] at hJ
      refine Rn_sq srt228 14 2 (pc' := 28) (ls' := [some (.ref 88), some (.int a1), some (.int a2)]) (st' := [(.int (ci 2)), (.ref 88)]) (h1 := (SH, s)) rfl ?_
      split at hJ
      · cases hJ
      rename_i v7 s6 h5
      refine Rn_call srt228 16 rfl rfl rfl ⟨Nat.le_of_ble_eq_true rfl, Nat.le_of_ble_eq_true rfl, rfl, Nat.le_of_ble_eq_true rfl⟩ (k_X12_bad (d + 9) h5) (show Rn N xs (d + 10) me228 31 [some (.ref 88), some (.int a1), some (.int a2)] [(.int v7)] (SH, s6) r from ?_)
      split at hJ
      case isFalse => cases hJ
      rename_i h8
      rw [← Option.some.inj hJ] at hC
      have hC : r = (some (.int v7), (SH, s6)) := hC
      subst hC
      exact Rn_ret srt228 17 rfl rfl (if_pos h8)
    · rw [if_neg h4] at hJ
      extract_lets s9 at hJ
      refine Rn_sq srt228 18 5 (pc' := 41) (ls' := [some (.ref 88), some (.int a1), some (.int a2)]) (st' := [(.ref 88)]) (h1 := (SH, s9)) rfl ?_
      split at hJ
      · cases hJ
      rename_i s11 h10
      refine Rn_call srt228 23 rfl rfl rfl ⟨Nat.le_of_ble_eq_true rfl, Nat.le_of_ble_eq_true rfl, rfl, Nat.le_of_ble_eq_true rfl⟩ (k_X12_next0 (d) h10) (show Rn N xs (d + 10) me228 44 [some (.ref 88), some (.int a1), some (.int a2)] [] (SH, s11) r from ?_)
      refine Rn_sq srt228 24 1 (pc' := 45) (ls' := [some (.ref 88), some (.int a1), some (.int a2)]) (st' := [(.int (ci 1))]) (h1 := (SH, s11)) rfl ?_
      rw [← Option.some.inj hJ] at hC
      have hC : r = (some (.int (ci 1)), (SH, s11)) := hC
      subst hC
      exact Rn_ret srt228 25 rfl rfl (if_pos (by decide))
  · rw [if_neg h1] at hJ
    refine Rn_sq srt228 4 2 (pc' := 10) (ls' := [some (.ref 88), some (.int a1), some (.int a2)]) (st' := [(.int (ci 1)), (.ref 88)]) (h1 := (SH, s)) rfl ?_
    split at hJ
    · cases hJ
    rename_i v14 s13 h12
    refine Rn_call srt228 6 rfl rfl rfl ⟨Nat.le_of_ble_eq_true rfl, Nat.le_of_ble_eq_true rfl, rfl, Nat.le_of_ble_eq_true rfl⟩ (k_X12_bad (d + 9) h12) (show Rn N xs (d + 10) me228 13 [some (.ref 88), some (.int a1), some (.int a2)] [(.int v14)] (SH, s13) r from ?_)
    split at hJ
    case isFalse => cases hJ
    rename_i h15
    rw [← Option.some.inj hJ] at hC
    have hC : r = (some (.int v14), (SH, s13)) := hC
    subst hC
    exact Rn_ret srt228 7 rfl rfl (if_pos h15)
theorem k_X12_number {N : Nat} {xs : Nat → Int32} (d : Nat) {s : mG} {a1 : Int32} {a2 : Int32} {τ : (Int32 × mG)} (hJ : F_X12_number a1 a2 s = some τ) : Rn N xs (d + 10) me228 0 [some (.ref 88), some (.int a1), some (.int a2)] [] (SH, s) (some (.int τ.1), (SH, τ.2)) := k_X12_number_r d hJ rfl
/-! IsHeInModel.told(IIII)Z -/
theorem srt229 : m_srt mc229 = true := by decide +kernel
def F_X12_told_18 (s : mG) : Option (Int32 × mG) :=
  some ((ci 0), s)
set_option maxRecDepth 4000 in
theorem k_X12_told_18 {N : Nat} {xs : Nat → Int32} (d : Nat) {r : Option Value × mH} {s : mG} {τ : (Int32 × mG)} (hJ : F_X12_told_18 s = some τ) (hC : (fun τ => r = (some (.int τ.1), (SH, τ.2))) τ) : Rn N xs (d + 11) me229 18 [none, none, none, none, none] [] (SH, s) r := by
  unfold F_X12_told_18 at hJ
  refine Rn_sq srt229 9 1 (pc' := 19) (ls' := [none, none, none, none, none]) (st' := [(.int (ci 0))]) (h1 := (SH, s)) rfl ?_
  rw [← Option.some.inj hJ] at hC
  have hC : r = (some (.int (ci 0)), (SH, s)) := hC
  subst hC
  exact Rn_ret srt229 10 rfl rfl (if_pos (by decide))
def F_X12_told (a1 : Int32) (a2 : Int32) (a3 : Int32) (a4 : Int32) (s : mG) : Option (Int32 × mG) :=
  match F_X12_need a2 s with
  | none => none
  | some (v3, s2) =>
  if v3 = 0 then
    F_X12_told_18 s2
  else
    match F_X12_number a3 a4 s2 with
    | none => none
    | some (v7, s6) =>
    if v7 = 0 then
      F_X12_told_18 s6
    else
      if a1 < 0 ∨ 48 ≤ a1.toNatClampNeg then none else
      let s10 : mG := (mu s6.1 94 a1.toNatClampNeg (s6.1 88 25), s6.2)
      some ((ci 1), s10)
set_option maxRecDepth 4000 in
theorem k_X12_told_r {N : Nat} {xs : Nat → Int32} (d : Nat) {r : Option Value × mH} {s : mG} {a1 : Int32} {a2 : Int32} {a3 : Int32} {a4 : Int32} {τ : (Int32 × mG)} (hJ : F_X12_told a1 a2 a3 a4 s = some τ) (hC : (fun τ => r = (some (.int τ.1), (SH, τ.2))) τ) : Rn N xs (d + 11) me229 0 [some (.ref 88), some (.int a1), some (.int a2), some (.int a3), some (.int a4)] [] (SH, s) r := by
  unfold F_X12_told at hJ
  refine Rn_sq srt229 0 2 (pc' := 2) (ls' := [some (.ref 88), some (.int a1), some (.int a2), some (.int a3), some (.int a4)]) (st' := [(.int a2), (.ref 88)]) (h1 := (SH, s)) rfl ?_
  split at hJ
  · cases hJ
  rename_i v3 s2 h1
  refine Rn_call srt229 2 rfl rfl rfl ⟨Nat.le_of_ble_eq_true rfl, Nat.le_of_ble_eq_true rfl, rfl, Nat.le_of_ble_eq_true rfl⟩ (k_X12_need (d) h1) (show Rn N xs (d + 11) me229 5 [some (.ref 88), some (.int a1), some (.int a2), some (.int a3), some (.int a4)] [(.int v3)] (SH, s2) r from ?_)
  refine Rn_sq srt229 3 1 (pc' := (if v3 = 0 then 18 else 8)) (ls' := [some (.ref 88), some (.int a1), some (.int a2), some (.int a3), some (.int a4)]) (st' := []) (h1 := (SH, s2)) rfl (Rn_if (fun h4 => ?_) (fun h4 => ?_))
  · rw [if_pos h4] at hJ
    exact Rn_weaken (a := [none, none, none, none, none]) (b := [some (.ref 88), some (.int a1), some (.int a2), some (.int a3), some (.int a4)]) trivial rfl (k_X12_told_18 d hJ hC)
  · rw [if_neg h4] at hJ
    refine Rn_sq srt229 4 3 (pc' := 12) (ls' := [some (.ref 88), some (.int a1), some (.int a2), some (.int a3), some (.int a4)]) (st' := [(.int a4), (.int a3), (.ref 88)]) (h1 := (SH, s2)) rfl ?_
    split at hJ
    · cases hJ
    rename_i v7 s6 h5
    refine Rn_call srt229 7 rfl rfl rfl ⟨Nat.le_of_ble_eq_true rfl, Nat.le_of_ble_eq_true rfl, rfl, Nat.le_of_ble_eq_true rfl⟩ (k_X12_number (d) h5) (show Rn N xs (d + 11) me229 15 [some (.ref 88), some (.int a1), some (.int a2), some (.int a3), some (.int a4)] [(.int v7)] (SH, s6) r from ?_)
    refine Rn_sq srt229 8 1 (pc' := (if v7 = 0 then 18 else 20)) (ls' := [some (.ref 88), some (.int a1), some (.int a2), some (.int a3), some (.int a4)]) (st' := []) (h1 := (SH, s6)) rfl (Rn_if (fun h8 => ?_) (fun h8 => ?_))
    · rw [if_pos h8] at hJ
      exact Rn_weaken (a := [none, none, none, none, none]) (b := [some (.ref 88), some (.int a1), some (.int a2), some (.int a3), some (.int a4)]) trivial rfl (k_X12_told_18 d hJ hC)
    · rw [if_neg h8] at hJ
      refine Rn_sq srt229 11 5 (pc' := 29) (ls' := [some (.ref 88), some (.int a1), some (.int a2), some (.int a3), some (.int a4)]) (st' := [(.int (s6.1 88 25)), (.int a1), (.ref 94)]) (h1 := (SH, s6)) rfl ?_
      split at hJ
      · cases hJ
      rename_i h9
      extract_lets s10 at hJ
      refine Rn_ev srt229 16 rfl rfl rfl (op_ias sh94 h9 (k := a1.toNatClampNeg) rfl) ?_
      refine Rn_sq srt229 17 1 (pc' := 31) (ls' := [some (.ref 88), some (.int a1), some (.int a2), some (.int a3), some (.int a4)]) (st' := [(.int (ci 1))]) (h1 := (SH, s10)) rfl ?_
      rw [← Option.some.inj hJ] at hC
      have hC : r = (some (.int (ci 1)), (SH, s10)) := hC
      subst hC
      exact Rn_ret srt229 18 rfl rfl (if_pos (by decide))
theorem k_X12_told {N : Nat} {xs : Nat → Int32} (d : Nat) {s : mG} {a1 : Int32} {a2 : Int32} {a3 : Int32} {a4 : Int32} {τ : (Int32 × mG)} (hJ : F_X12_told a1 a2 a3 a4 s = some τ) : Rn N xs (d + 11) me229 0 [some (.ref 88), some (.int a1), some (.int a2), some (.int a3), some (.int a4)] [] (SH, s) (some (.int τ.1), (SH, τ.2)) := k_X12_told_r d hJ rfl
/-! IsHeInModel.aSign()Z -/
theorem srt230 : m_srt mc230 = true := by decide +kernel
def F_X12_aSign_63 (s : mG) : Option (Int32 × mG) :=
  some ((ci 0), s)
set_option maxRecDepth 4000 in
theorem k_X12_aSign_63 {N : Nat} {xs : Nat → Int32} (d : Nat) {r : Option Value × mH} {s : mG} {τ : (Int32 × mG)} (hJ : F_X12_aSign_63 s = some τ) (hC : (fun τ => r = (some (.int τ.1), (SH, τ.2))) τ) : Rn N xs (d + 12) me230 63 [none] [] (SH, s) r := by
  unfold F_X12_aSign_63 at hJ
  refine Rn_sq srt230 32 1 (pc' := 64) (ls' := [none]) (st' := [(.int (ci 0))]) (h1 := (SH, s)) rfl ?_
  rw [← Option.some.inj hJ] at hC
  have hC : r = (some (.int (ci 0)), (SH, s)) := hC
  subst hC
  exact Rn_ret srt230 33 rfl rfl (if_pos (by decide))
def F_X12_aSign (s : mG) : Option (Int32 × mG) :=
  match F_X12_need (c8 7) s with
  | none => none
  | some (v3, s2) =>
  if v3 = 0 then
    F_X12_aSign_63 s2
  else
    match F_X12_told ((ci 2) * (s2.1 88 14)) (c8 8) (ci 1) (c16 999) s2 with
    | none => none
    | some (v7, s6) =>
    if v7 = 0 then
      F_X12_aSign_63 s6
    else
      match F_X12_told (((ci 2) * (s6.1 88 14)) + (ci 1)) (c8 9) (ci 1) (c16 999) s6 with
      | none => none
      | some (v11, s10) =>
      if v11 = 0 then
        F_X12_aSign_63 s10
      else
        match F_X12_need (c16 159) s10 with
        | none => none
        | some (v15, s14) =>
        if v15 = 0 then
          F_X12_aSign_63 s14
        else
          some ((ci 1), s14)
set_option maxRecDepth 4000 in
theorem k_X12_aSign_r {N : Nat} {xs : Nat → Int32} (d : Nat) {r : Option Value × mH} {s : mG} {τ : (Int32 × mG)} (hJ : F_X12_aSign s = some τ) (hC : (fun τ => r = (some (.int τ.1), (SH, τ.2))) τ) : Rn N xs (d + 12) me230 0 [some (.ref 88)] [] (SH, s) r := by
  unfold F_X12_aSign at hJ
  refine Rn_sq srt230 0 2 (pc' := 3) (ls' := [some (.ref 88)]) (st' := [(.int (c8 7)), (.ref 88)]) (h1 := (SH, s)) rfl ?_
  split at hJ
  · cases hJ
  rename_i v3 s2 h1
  refine Rn_call srt230 2 rfl rfl rfl ⟨Nat.le_of_ble_eq_true rfl, Nat.le_of_ble_eq_true rfl, rfl, Nat.le_of_ble_eq_true rfl⟩ (k_X12_need (d + 1) h1) (show Rn N xs (d + 12) me230 6 [some (.ref 88)] [(.int v3)] (SH, s2) r from ?_)
  refine Rn_sq srt230 3 1 (pc' := (if v3 = 0 then 63 else 9)) (ls' := [some (.ref 88)]) (st' := []) (h1 := (SH, s2)) rfl (Rn_if (fun h4 => ?_) (fun h4 => ?_))
  · rw [if_pos h4] at hJ
    exact Rn_weaken (a := [none]) (b := [some (.ref 88)]) trivial rfl (k_X12_aSign_63 d hJ hC)
  · rw [if_neg h4] at hJ
    refine Rn_sq srt230 4 8 (pc' := 22) (ls' := [some (.ref 88)]) (st' := [(.int (c16 999)), (.int (ci 1)), (.int (c8 8)), (.int ((ci 2) * (s2.1 88 14))), (.ref 88)]) (h1 := (SH, s2)) rfl ?_
    split at hJ
    · cases hJ
    rename_i v7 s6 h5
    refine Rn_call srt230 12 rfl rfl rfl ⟨Nat.le_of_ble_eq_true rfl, Nat.le_of_ble_eq_true rfl, rfl, Nat.le_of_ble_eq_true rfl⟩ (k_X12_told (d) h5) (show Rn N xs (d + 12) me230 25 [some (.ref 88)] [(.int v7)] (SH, s6) r from ?_)
    refine Rn_sq srt230 13 1 (pc' := (if v7 = 0 then 63 else 28)) (ls' := [some (.ref 88)]) (st' := []) (h1 := (SH, s6)) rfl (Rn_if (fun h8 => ?_) (fun h8 => ?_))
    · rw [if_pos h8] at hJ
      exact Rn_weaken (a := [none]) (b := [some (.ref 88)]) trivial rfl (k_X12_aSign_63 d hJ hC)
    · rw [if_neg h8] at hJ
      refine Rn_sq srt230 14 10 (pc' := 43) (ls' := [some (.ref 88)]) (st' := [(.int (c16 999)), (.int (ci 1)), (.int (c8 9)), (.int (((ci 2) * (s6.1 88 14)) + (ci 1))), (.ref 88)]) (h1 := (SH, s6)) rfl ?_
      split at hJ
      · cases hJ
      rename_i v11 s10 h9
      refine Rn_call srt230 24 rfl rfl rfl ⟨Nat.le_of_ble_eq_true rfl, Nat.le_of_ble_eq_true rfl, rfl, Nat.le_of_ble_eq_true rfl⟩ (k_X12_told (d) h9) (show Rn N xs (d + 12) me230 46 [some (.ref 88)] [(.int v11)] (SH, s10) r from ?_)
      refine Rn_sq srt230 25 1 (pc' := (if v11 = 0 then 63 else 49)) (ls' := [some (.ref 88)]) (st' := []) (h1 := (SH, s10)) rfl (Rn_if (fun h12 => ?_) (fun h12 => ?_))
      · rw [if_pos h12] at hJ
        exact Rn_weaken (a := [none]) (b := [some (.ref 88)]) trivial rfl (k_X12_aSign_63 d hJ hC)
      · rw [if_neg h12] at hJ
        refine Rn_sq srt230 26 2 (pc' := 53) (ls' := [some (.ref 88)]) (st' := [(.int (c16 159)), (.ref 88)]) (h1 := (SH, s10)) rfl ?_
        split at hJ
        · cases hJ
        rename_i v15 s14 h13
        refine Rn_call srt230 28 rfl rfl rfl ⟨Nat.le_of_ble_eq_true rfl, Nat.le_of_ble_eq_true rfl, rfl, Nat.le_of_ble_eq_true rfl⟩ (k_X12_need (d + 1) h13) (show Rn N xs (d + 12) me230 56 [some (.ref 88)] [(.int v15)] (SH, s14) r from ?_)
        refine Rn_sq srt230 29 1 (pc' := (if v15 = 0 then 63 else 59)) (ls' := [some (.ref 88)]) (st' := []) (h1 := (SH, s14)) rfl (Rn_if (fun h16 => ?_) (fun h16 => ?_))
        · rw [if_pos h16] at hJ
          exact Rn_weaken (a := [none]) (b := [some (.ref 88)]) trivial rfl (k_X12_aSign_63 d hJ hC)
        · rw [if_neg h16] at hJ
          refine Rn_sq srt230 30 2 (pc' := 64) (ls' := [some (.ref 88)]) (st' := [(.int (ci 1))]) (h1 := (SH, s14)) rfl ?_
          rw [← Option.some.inj hJ] at hC
          have hC : r = (some (.int (ci 1)), (SH, s14)) := hC
          subst hC
          exact Rn_ret srt230 33 rfl rfl (if_pos (by decide))
theorem k_X12_aSign {N : Nat} {xs : Nat → Int32} (d : Nat) {s : mG} {τ : (Int32 × mG)} (hJ : F_X12_aSign s = some τ) : Rn N xs (d + 12) me230 0 [some (.ref 88)] [] (SH, s) (some (.int τ.1), (SH, τ.2)) := k_X12_aSign_r d hJ rfl
/-! IsHeInModel.aShift()Z -/
theorem srt231 : m_srt mc231 = true := by decide +kernel
def F_X12_aShift_90 (s : mG) : Option (Int32 × mG) :=
  some ((ci 0), s)
set_option maxRecDepth 4000 in
theorem k_X12_aShift_90 {N : Nat} {xs : Nat → Int32} (d : Nat) {r : Option Value × mH} {s : mG} {τ : (Int32 × mG)} (hJ : F_X12_aShift_90 s = some τ) (hC : (fun τ => r = (some (.int τ.1), (SH, τ.2))) τ) : Rn N xs (d + 12) me231 90 [none] [] (SH, s) r := by
  unfold F_X12_aShift_90 at hJ
  refine Rn_sq srt231 52 1 (pc' := 91) (ls' := [none]) (st' := [(.int (ci 0))]) (h1 := (SH, s)) rfl ?_
  rw [← Option.some.inj hJ] at hC
  have hC : r = (some (.int (ci 0)), (SH, s)) := hC
  subst hC
  exact Rn_ret srt231 53 rfl rfl (if_pos (by decide))
def F_X12_aShift (s : mG) : Option (Int32 × mG) :=
  match F_X12_told ((ci 4) * (s.1 88 14)) (c8 10) (ci 0) (ci 3) s with
  | none => none
  | some (v3, s2) =>
  if v3 = 0 then
    F_X12_aShift_90 s2
  else
    match F_X12_told (((ci 4) * (s2.1 88 14)) + (ci 1)) (c8 11) (ci 0) (c8 23) s2 with
    | none => none
    | some (v7, s6) =>
    if v7 = 0 then
      F_X12_aShift_90 s6
    else
      match F_X12_told (((ci 4) * (s6.1 88 14)) + (ci 2)) (c8 12) (ci 1) (c8 24) s6 with
      | none => none
      | some (v11, s10) =>
      if v11 = 0 then
        F_X12_aShift_90 s10
      else
        match F_X12_told (((ci 4) * (s10.1 88 14)) + (ci 3)) (c8 13) (ci 0) (ci 1) s10 with
        | none => none
        | some (v15, s14) =>
        if v15 = 0 then
          F_X12_aShift_90 s14
        else
          match F_X12_need (c16 159) s14 with
          | none => none
          | some (v19, s18) =>
          if v19 = 0 then
            F_X12_aShift_90 s18
          else
            some ((ci 1), s18)
set_option maxRecDepth 4000 in
theorem k_X12_aShift_r {N : Nat} {xs : Nat → Int32} (d : Nat) {r : Option Value × mH} {s : mG} {τ : (Int32 × mG)} (hJ : F_X12_aShift s = some τ) (hC : (fun τ => r = (some (.int τ.1), (SH, τ.2))) τ) : Rn N xs (d + 12) me231 0 [some (.ref 88)] [] (SH, s) r := by
  unfold F_X12_aShift at hJ
  refine Rn_sq srt231 0 8 (pc' := 11) (ls' := [some (.ref 88)]) (st' := [(.int (ci 3)), (.int (ci 0)), (.int (c8 10)), (.int ((ci 4) * (s.1 88 14))), (.ref 88)]) (h1 := (SH, s)) rfl ?_
  split at hJ
  · cases hJ
  rename_i v3 s2 h1
  refine Rn_call srt231 8 rfl rfl rfl ⟨Nat.le_of_ble_eq_true rfl, Nat.le_of_ble_eq_true rfl, rfl, Nat.le_of_ble_eq_true rfl⟩ (k_X12_told (d) h1) (show Rn N xs (d + 12) me231 14 [some (.ref 88)] [(.int v3)] (SH, s2) r from ?_)
  refine Rn_sq srt231 9 1 (pc' := (if v3 = 0 then 90 else 17)) (ls' := [some (.ref 88)]) (st' := []) (h1 := (SH, s2)) rfl (Rn_if (fun h4 => ?_) (fun h4 => ?_))
  · rw [if_pos h4] at hJ
    exact Rn_weaken (a := [none]) (b := [some (.ref 88)]) trivial rfl (k_X12_aShift_90 d hJ hC)
  · rw [if_neg h4] at hJ
    refine Rn_sq srt231 10 10 (pc' := 31) (ls' := [some (.ref 88)]) (st' := [(.int (c8 23)), (.int (ci 0)), (.int (c8 11)), (.int (((ci 4) * (s2.1 88 14)) + (ci 1))), (.ref 88)]) (h1 := (SH, s2)) rfl ?_
    split at hJ
    · cases hJ
    rename_i v7 s6 h5
    refine Rn_call srt231 20 rfl rfl rfl ⟨Nat.le_of_ble_eq_true rfl, Nat.le_of_ble_eq_true rfl, rfl, Nat.le_of_ble_eq_true rfl⟩ (k_X12_told (d) h5) (show Rn N xs (d + 12) me231 34 [some (.ref 88)] [(.int v7)] (SH, s6) r from ?_)
    refine Rn_sq srt231 21 1 (pc' := (if v7 = 0 then 90 else 37)) (ls' := [some (.ref 88)]) (st' := []) (h1 := (SH, s6)) rfl (Rn_if (fun h8 => ?_) (fun h8 => ?_))
    · rw [if_pos h8] at hJ
      exact Rn_weaken (a := [none]) (b := [some (.ref 88)]) trivial rfl (k_X12_aShift_90 d hJ hC)
    · rw [if_neg h8] at hJ
      refine Rn_sq srt231 22 10 (pc' := 51) (ls' := [some (.ref 88)]) (st' := [(.int (c8 24)), (.int (ci 1)), (.int (c8 12)), (.int (((ci 4) * (s6.1 88 14)) + (ci 2))), (.ref 88)]) (h1 := (SH, s6)) rfl ?_
      split at hJ
      · cases hJ
      rename_i v11 s10 h9
      refine Rn_call srt231 32 rfl rfl rfl ⟨Nat.le_of_ble_eq_true rfl, Nat.le_of_ble_eq_true rfl, rfl, Nat.le_of_ble_eq_true rfl⟩ (k_X12_told (d) h9) (show Rn N xs (d + 12) me231 54 [some (.ref 88)] [(.int v11)] (SH, s10) r from ?_)
      refine Rn_sq srt231 33 1 (pc' := (if v11 = 0 then 90 else 57)) (ls' := [some (.ref 88)]) (st' := []) (h1 := (SH, s10)) rfl (Rn_if (fun h12 => ?_) (fun h12 => ?_))
      · rw [if_pos h12] at hJ
        exact Rn_weaken (a := [none]) (b := [some (.ref 88)]) trivial rfl (k_X12_aShift_90 d hJ hC)
      · rw [if_neg h12] at hJ
        refine Rn_sq srt231 34 10 (pc' := 70) (ls' := [some (.ref 88)]) (st' := [(.int (ci 1)), (.int (ci 0)), (.int (c8 13)), (.int (((ci 4) * (s10.1 88 14)) + (ci 3))), (.ref 88)]) (h1 := (SH, s10)) rfl ?_
        split at hJ
        · cases hJ
        rename_i v15 s14 h13
        refine Rn_call srt231 44 rfl rfl rfl ⟨Nat.le_of_ble_eq_true rfl, Nat.le_of_ble_eq_true rfl, rfl, Nat.le_of_ble_eq_true rfl⟩ (k_X12_told (d) h13) (show Rn N xs (d + 12) me231 73 [some (.ref 88)] [(.int v15)] (SH, s14) r from ?_)
        refine Rn_sq srt231 45 1 (pc' := (if v15 = 0 then 90 else 76)) (ls' := [some (.ref 88)]) (st' := []) (h1 := (SH, s14)) rfl (Rn_if (fun h16 => ?_) (fun h16 => ?_))
        · rw [if_pos h16] at hJ
          exact Rn_weaken (a := [none]) (b := [some (.ref 88)]) trivial rfl (k_X12_aShift_90 d hJ hC)
        · rw [if_neg h16] at hJ
          refine Rn_sq srt231 46 2 (pc' := 80) (ls' := [some (.ref 88)]) (st' := [(.int (c16 159)), (.ref 88)]) (h1 := (SH, s14)) rfl ?_
          split at hJ
          · cases hJ
          rename_i v19 s18 h17
          refine Rn_call srt231 48 rfl rfl rfl ⟨Nat.le_of_ble_eq_true rfl, Nat.le_of_ble_eq_true rfl, rfl, Nat.le_of_ble_eq_true rfl⟩ (k_X12_need (d + 1) h17) (show Rn N xs (d + 12) me231 83 [some (.ref 88)] [(.int v19)] (SH, s18) r from ?_)
          refine Rn_sq srt231 49 1 (pc' := (if v19 = 0 then 90 else 86)) (ls' := [some (.ref 88)]) (st' := []) (h1 := (SH, s18)) rfl (Rn_if (fun h20 => ?_) (fun h20 => ?_))
          · rw [if_pos h20] at hJ
            exact Rn_weaken (a := [none]) (b := [some (.ref 88)]) trivial rfl (k_X12_aShift_90 d hJ hC)
          · rw [if_neg h20] at hJ
            refine Rn_sq srt231 50 2 (pc' := 91) (ls' := [some (.ref 88)]) (st' := [(.int (ci 1))]) (h1 := (SH, s18)) rfl ?_
            rw [← Option.some.inj hJ] at hC
            have hC : r = (some (.int (ci 1)), (SH, s18)) := hC
            subst hC
            exact Rn_ret srt231 53 rfl rfl (if_pos (by decide))
theorem k_X12_aShift {N : Nat} {xs : Nat → Int32} (d : Nat) {s : mG} {τ : (Int32 × mG)} (hJ : F_X12_aShift s = some τ) : Rn N xs (d + 12) me231 0 [some (.ref 88)] [] (SH, s) (some (.int τ.1), (SH, τ.2)) := k_X12_aShift_r d hJ rfl
/-! IsHeInModel.readsRows()Z -/
theorem srt232 : m_srt mc232 = true := by decide +kernel
def C_X12_readsRows_7 (N : Nat) (xs : Nat → Int32) (d : Nat) (r : Option Value × mH) (C : (Int32 × mG) → Prop) : ((Int32 × mG) ⊕ (Int32 × mG)) → Prop
  | .inl v => Rn N xs (d + 13) me232 7 [some (.ref 88), some (.int v.1)] [] (SH, v.2) r
  | .inr a => C a
def F_X12_readsRows_115 (x1 : Int32) (s : mG) : Option (Int32 × mG) :=
  if x1 = 0 ∨ x1 = 1 then
    some (x1, s)
  else none
set_option maxRecDepth 4000 in
theorem k_X12_readsRows_115 {N : Nat} {xs : Nat → Int32} (d : Nat) {r : Option Value × mH} {s : mG} {x1 : Int32} {τ : (Int32 × mG)} (hJ : F_X12_readsRows_115 x1 s = some τ) (hC : (fun τ => r = (some (.int τ.1), (SH, τ.2))) τ) : Rn N xs (d + 13) me232 115 [none, some (.int x1)] [] (SH, s) r := by
  unfold F_X12_readsRows_115 at hJ
  refine Rn_sq srt232 59 1 (pc' := 116) (ls' := [none, some (.int x1)]) (st' := [(.int x1)]) (h1 := (SH, s)) rfl ?_
  split at hJ
  case isFalse => cases hJ
  rename_i h3
  rw [← Option.some.inj hJ] at hC
  have hC : r = (some (.int x1), (SH, s)) := hC
  subst hC
  exact Rn_ret srt232 60 rfl rfl (if_pos h3)
def F_X12_readsRows_108 (x1 : Int32) (y1 : Int32) (y2 : Int32) (s : mG) : Option ((Int32 × mG) ⊕ (Int32 × mG)) :=
  let s18 : mG := (mu s.1 88 14 (y1 + y2), s.2)
  some (Sum.inl (x1, s18))
set_option maxRecDepth 4000 in
theorem k_X12_readsRows_108 {N : Nat} {xs : Nat → Int32} (d : Nat) {r : Option Value × mH} {s : mG} {x1 : Int32} {y1 : Int32} {y2 : Int32} {τ : ((Int32 × mG) ⊕ (Int32 × mG))} (hJ : F_X12_readsRows_108 x1 y1 y2 s = some τ) (hC : (C_X12_readsRows_7 N xs d r (fun τ => r = (some (.int τ.1), (SH, τ.2)))) τ) : Rn N xs (d + 13) me232 108 [some (.ref 88), some (.int x1)] [(.int y2), (.int y1), (.ref 88)] (SH, s) r := by
  unfold F_X12_readsRows_108 at hJ
  extract_lets s18 at hJ
  refine Rn_sq srt232 56 3 (pc' := 7) (ls' := [some (.ref 88), some (.int x1)]) (st' := []) (h1 := (SH, s18)) rfl ?_
  rw [← Option.some.inj hJ] at hC
  exact hC
def F_X12_readsRows_93 (y0 : Int32) (s : mG) : Option ((Int32 × mG) ⊕ (Int32 × mG)) :=
  if y0 = 0 then
    F_X12_readsRows_108 y0 (s.1 88 14) (ci 0) s
  else
    F_X12_readsRows_108 y0 (s.1 88 14) (ci 1) s
set_option maxRecDepth 4000 in
theorem k_X12_readsRows_93 {N : Nat} {xs : Nat → Int32} (d : Nat) {r : Option Value × mH} {s : mG} {y0 : Int32} {τ : ((Int32 × mG) ⊕ (Int32 × mG))} (hJ : F_X12_readsRows_93 y0 s = some τ) (hC : (C_X12_readsRows_7 N xs d r (fun τ => r = (some (.int τ.1), (SH, τ.2)))) τ) : Rn N xs (d + 13) me232 93 [some (.ref 88), none] [(.int y0)] (SH, s) r := by
  unfold F_X12_readsRows_93 at hJ
  refine Rn_sq srt232 47 6 (pc' := (if y0 = 0 then 107 else 103)) (ls' := [some (.ref 88), some (.int y0)]) (st' := [(.int (s.1 88 14)), (.ref 88)]) (h1 := (SH, s)) rfl (Rn_if (fun h17 => ?_) (fun h17 => ?_))
  · rw [if_pos h17] at hJ
    refine Rn_sq srt232 55 1 (pc' := 108) (ls' := [some (.ref 88), some (.int y0)]) (st' := [(.int (ci 0)), (.int (s.1 88 14)), (.ref 88)]) (h1 := (SH, s)) rfl ?_
    exact (k_X12_readsRows_108 d hJ hC)
  · rw [if_neg h17] at hJ
    refine Rn_sq srt232 53 2 (pc' := 108) (ls' := [some (.ref 88), some (.int y0)]) (st' := [(.int (ci 1)), (.int (s.1 88 14)), (.ref 88)]) (h1 := (SH, s)) rfl ?_
    exact (k_X12_readsRows_108 d hJ hC)
def F_X12_readsRows_65 (y0 : Int32) (y1 : Int32) (s : mG) : Option ((Int32 × mG) ⊕ (Int32 × mG)) :=
  if y0 = y1 then
    match F_X12_bad (ci 3) s with
    | none => none
    | some (v11, s10) =>
    if v11 = 0 ∨ v11 = 1 then
      some (Sum.inr (v11, s10))
    else none
  else
    if (s.1 88 11) = (ci 1) then
      match F_X12_aSign s with
      | none => none
      | some (v16, s15) =>
      F_X12_readsRows_93 v16 s15
    else
      match F_X12_aShift s with
      | none => none
      | some (v21, s20) =>
      F_X12_readsRows_93 v21 s20
set_option maxRecDepth 4000 in
theorem k_X12_readsRows_65 {N : Nat} {xs : Nat → Int32} (d : Nat) {r : Option Value × mH} {s : mG} {y0 : Int32} {y1 : Int32} {τ : ((Int32 × mG) ⊕ (Int32 × mG))} (hJ : F_X12_readsRows_65 y0 y1 s = some τ) (hC : (C_X12_readsRows_7 N xs d r (fun τ => r = (some (.int τ.1), (SH, τ.2)))) τ) : Rn N xs (d + 13) me232 65 [some (.ref 88), none] [(.int y1), (.int y0)] (SH, s) r := by
  unfold F_X12_readsRows_65 at hJ
  refine Rn_sq srt232 33 1 (pc' := (if y0 = y1 then 68 else 74)) (ls' := [some (.ref 88), none]) (st' := []) (h1 := (SH, s)) rfl (Rn_if (fun h8 => ?_) (fun h8 => ?_))
  · rw [if_pos h8] at hJ
    refine Rn_sq srt232 34 2 (pc' := 70) (ls' := [some (.ref 88), none]) (st' := [(.int (ci 3)), (.ref 88)]) (h1 := (SH, s)) rfl ?_
    split at hJ
    · cases hJ
    rename_i v11 s10 h9
    refine Rn_call srt232 36 rfl rfl rfl ⟨Nat.le_of_ble_eq_true rfl, Nat.le_of_ble_eq_true rfl, rfl, Nat.le_of_ble_eq_true rfl⟩ (k_X12_bad (d + 12) h9) (show Rn N xs (d + 13) me232 73 [some (.ref 88), none] [(.int v11)] (SH, s10) r from ?_)
    split at hJ
    case isFalse => cases hJ
    rename_i h12
    rw [← Option.some.inj hJ] at hC
    have hC : r = (some (.int v11), (SH, s10)) := hC
    subst hC
    exact Rn_ret srt232 37 rfl rfl (if_pos h12)
  · rw [if_neg h8] at hJ
    refine Rn_sq srt232 38 4 (pc' := (if (s.1 88 11) = (ci 1) then 82 else 89)) (ls' := [some (.ref 88), none]) (st' := []) (h1 := (SH, s)) rfl (Rn_if (fun h13 => ?_) (fun h13 => ?_))
    · rw [if_pos h13] at hJ
      refine Rn_sq srt232 42 1 (pc' := 83) (ls' := [some (.ref 88), none]) (st' := [(.ref 88)]) (h1 := (SH, s)) rfl ?_
      split at hJ
      · cases hJ
      rename_i v16 s15 h14
      refine Rn_call srt232 43 rfl rfl rfl ⟨Nat.le_of_ble_eq_true rfl, Nat.le_of_ble_eq_true rfl, rfl, Nat.le_of_ble_eq_true rfl⟩ (k_X12_aSign (d) h14) (show Rn N xs (d + 13) me232 86 [some (.ref 88), none] [(.int v16)] (SH, s15) r from ?_)
      refine Rn_sq srt232 44 1 (pc' := 93) (ls' := [some (.ref 88), none]) (st' := [(.int v16)]) (h1 := (SH, s15)) rfl ?_
      exact (k_X12_readsRows_93 d hJ hC)
    · rw [if_neg h13] at hJ
      refine Rn_sq srt232 45 1 (pc' := 90) (ls' := [some (.ref 88), none]) (st' := [(.ref 88)]) (h1 := (SH, s)) rfl ?_
      split at hJ
      · cases hJ
      rename_i v21 s20 h19
      refine Rn_call srt232 46 rfl rfl rfl ⟨Nat.le_of_ble_eq_true rfl, Nat.le_of_ble_eq_true rfl, rfl, Nat.le_of_ble_eq_true rfl⟩ (k_X12_aShift (d) h19) (show Rn N xs (d + 13) me232 93 [some (.ref 88), none] [(.int v21)] (SH, s20) r from ?_)
      exact (k_X12_readsRows_93 d hJ hC)
def F_X12_readsRows_37 (y0 : Int32) (y1 : Int32) (s : mG) : Option ((Int32 × mG) ⊕ (Int32 × mG)) :=
  if y0 = y1 then
    if (s.1 88 11) = (ci 1) then
      F_X12_readsRows_65 (s.1 88 14) (c8 6) s
    else
      F_X12_readsRows_65 (s.1 88 14) (c8 12) s
  else
    match F_X12_bad (ci 1) s with
    | none => none
    | some (v24, s23) =>
    if v24 = 0 ∨ v24 = 1 then
      some (Sum.inr (v24, s23))
    else none
set_option maxRecDepth 4000 in
theorem k_X12_readsRows_37 {N : Nat} {xs : Nat → Int32} (d : Nat) {r : Option Value × mH} {s : mG} {y0 : Int32} {y1 : Int32} {τ : ((Int32 × mG) ⊕ (Int32 × mG))} (hJ : F_X12_readsRows_37 y0 y1 s = some τ) (hC : (C_X12_readsRows_7 N xs d r (fun τ => r = (some (.int τ.1), (SH, τ.2)))) τ) : Rn N xs (d + 13) me232 37 [some (.ref 88), none] [(.int y1), (.int y0)] (SH, s) r := by
  unfold F_X12_readsRows_37 at hJ
  refine Rn_sq srt232 19 1 (pc' := (if y0 = y1 then 46 else 40)) (ls' := [some (.ref 88), none]) (st' := []) (h1 := (SH, s)) rfl (Rn_if (fun h6 => ?_) (fun h6 => ?_))
  · rw [if_pos h6] at hJ
    refine Rn_sq srt232 24 6 (pc' := (if (s.1 88 11) = (ci 1) then 58 else 63)) (ls' := [some (.ref 88), none]) (st' := [(.int (s.1 88 14))]) (h1 := (SH, s)) rfl (Rn_if (fun h7 => ?_) (fun h7 => ?_))
    · rw [if_pos h7] at hJ
      refine Rn_sq srt232 30 2 (pc' := 65) (ls' := [some (.ref 88), none]) (st' := [(.int (c8 6)), (.int (s.1 88 14))]) (h1 := (SH, s)) rfl ?_
      exact (k_X12_readsRows_65 d hJ hC)
    · rw [if_neg h7] at hJ
      refine Rn_sq srt232 32 1 (pc' := 65) (ls' := [some (.ref 88), none]) (st' := [(.int (c8 12)), (.int (s.1 88 14))]) (h1 := (SH, s)) rfl ?_
      exact (k_X12_readsRows_65 d hJ hC)
  · rw [if_neg h6] at hJ
    refine Rn_sq srt232 20 2 (pc' := 42) (ls' := [some (.ref 88), none]) (st' := [(.int (ci 1)), (.ref 88)]) (h1 := (SH, s)) rfl ?_
    split at hJ
    · cases hJ
    rename_i v24 s23 h22
    refine Rn_call srt232 22 rfl rfl rfl ⟨Nat.le_of_ble_eq_true rfl, Nat.le_of_ble_eq_true rfl, rfl, Nat.le_of_ble_eq_true rfl⟩ (k_X12_bad (d + 12) h22) (show Rn N xs (d + 13) me232 45 [some (.ref 88), none] [(.int v24)] (SH, s23) r from ?_)
    split at hJ
    case isFalse => cases hJ
    rename_i h25
    rw [← Option.some.inj hJ] at hC
    have hC : r = (some (.int v24), (SH, s23)) := hC
    subst hC
    exact Rn_ret srt232 23 rfl rfl (if_pos h25)
def F_X12_readsRows_B7 (x1 : Int32) (s : mG) : Option ((Int32 × mG) ⊕ (Int32 × mG)) :=
  if x1 = 0 then
    match F_X12_readsRows_115 x1 s with
    | none => none
    | some τ => some (Sum.inr τ)
  else
    if (s.1 88 17) = 0 then
      match F_X12_readsRows_115 x1 s with
      | none => none
      | some τ => some (Sum.inr τ)
    else
      if (s.1 88 11) = (ci 1) then
        F_X12_readsRows_37 (s.1 88 17) (c8 7) s
      else
        F_X12_readsRows_37 (s.1 88 17) (c8 10) s
set_option maxRecDepth 4000 in
theorem k_X12_readsRows_B7 {N : Nat} {xs : Nat → Int32} (d : Nat) {r : Option Value × mH} {s : mG} {x1 : Int32} {τ : ((Int32 × mG) ⊕ (Int32 × mG))} (hJ : F_X12_readsRows_B7 x1 s = some τ) (hC : (C_X12_readsRows_7 N xs d r (fun τ => r = (some (.int τ.1), (SH, τ.2)))) τ) : Rn N xs (d + 13) me232 7 [some (.ref 88), some (.int x1)] [] (SH, s) r := by
  unfold F_X12_readsRows_B7 at hJ
  refine Rn_sq srt232 5 2 (pc' := (if x1 = 0 then 115 else 11)) (ls' := [some (.ref 88), some (.int x1)]) (st' := []) (h1 := (SH, s)) rfl (Rn_if (fun h2 => ?_) (fun h2 => ?_))
  · rw [if_pos h2] at hJ
    split at hJ
    · cases hJ
    · next τ1 hJ1 =>
      rw [← Option.some.inj hJ] at hC
      exact Rn_weaken (a := [none, some (.int x1)]) (b := [some (.ref 88), some (.int x1)]) (And.intro rfl trivial) rfl (k_X12_readsRows_115 d hJ1 hC)
  · rw [if_neg h2] at hJ
    refine Rn_sq srt232 7 3 (pc' := (if (s.1 88 17) = 0 then 115 else 18)) (ls' := [some (.ref 88), some (.int x1)]) (st' := []) (h1 := (SH, s)) rfl (Rn_if (fun h4 => ?_) (fun h4 => ?_))
    · rw [if_pos h4] at hJ
      split at hJ
      · cases hJ
      · next τ1 hJ1 =>
        rw [← Option.some.inj hJ] at hC
        exact Rn_weaken (a := [none, some (.int x1)]) (b := [some (.ref 88), some (.int x1)]) (And.intro rfl trivial) rfl (k_X12_readsRows_115 d hJ1 hC)
    · rw [if_neg h4] at hJ
      refine Rn_sq srt232 10 6 (pc' := (if (s.1 88 11) = (ci 1) then 30 else 35)) (ls' := [some (.ref 88), some (.int x1)]) (st' := [(.int (s.1 88 17))]) (h1 := (SH, s)) rfl (Rn_if (fun h5 => ?_) (fun h5 => ?_))
      · rw [if_pos h5] at hJ
        refine Rn_sq srt232 16 2 (pc' := 37) (ls' := [some (.ref 88), some (.int x1)]) (st' := [(.int (c8 7)), (.int (s.1 88 17))]) (h1 := (SH, s)) rfl ?_
        exact Rn_weaken (a := [some (.ref 88), none]) (b := [some (.ref 88), some (.int x1)]) (And.intro rfl trivial) rfl (k_X12_readsRows_37 d hJ hC)
      · rw [if_neg h5] at hJ
        refine Rn_sq srt232 18 1 (pc' := 37) (ls' := [some (.ref 88), some (.int x1)]) (st' := [(.int (c8 10)), (.int (s.1 88 17))]) (h1 := (SH, s)) rfl ?_
        exact Rn_weaken (a := [some (.ref 88), none]) (b := [some (.ref 88), some (.int x1)]) (And.intro rfl trivial) rfl (k_X12_readsRows_37 d hJ hC)
def F_X12_readsRows_L7 (x1 : Int32) (s : mG) : Option (Int32 × mG) := whl (fun (v : (Int32 × mG)) => F_X12_readsRows_B7 v.1 v.2) (x1, s)
theorem k_X12_readsRows_L7 {N : Nat} {xs : Nat → Int32} (d : Nat) {r : Option Value × mH} {s : mG} {x1 : Int32} {τ : (Int32 × mG)} (hJ : F_X12_readsRows_L7 x1 s = some τ) (hC : (fun τ => r = (some (.int τ.1), (SH, τ.2))) τ) : Rn N xs (d + 13) me232 7 [some (.ref 88), some (.int x1)] [] (SH, s) r :=
  whl_link (P := fun (v : (Int32 × mG)) => Rn N xs (d + 13) me232 7 [some (.ref 88), some (.int v.1)] [] (SH, v.2) r) (C := (C_X12_readsRows_7 N xs d r (fun τ => r = (some (.int τ.1), (SH, τ.2))))) (fun v τ h1 h2 => k_X12_readsRows_B7 d h1 h2) (fun _ h => h) (fun _ h => h) _ _ hJ hC
def F_X12_readsRows (s : mG) : Option (Int32 × mG) :=
  let s1 : mG := (mu s.1 88 14 (ci 0), s.2)
  F_X12_readsRows_L7 (ci 1) s1
set_option maxRecDepth 4000 in
theorem k_X12_readsRows_r {N : Nat} {xs : Nat → Int32} (d : Nat) {r : Option Value × mH} {s : mG} {τ : (Int32 × mG)} (hJ : F_X12_readsRows s = some τ) (hC : (fun τ => r = (some (.int τ.1), (SH, τ.2))) τ) : Rn N xs (d + 13) me232 0 [some (.ref 88), none] [] (SH, s) r := by
  unfold F_X12_readsRows at hJ
  extract_lets s1 at hJ
  refine Rn_sq srt232 0 5 (pc' := 7) (ls' := [some (.ref 88), some (.int (ci 1))]) (st' := []) (h1 := (SH, s1)) rfl ?_
  exact (k_X12_readsRows_L7 d hJ hC)
theorem k_X12_readsRows {N : Nat} {xs : Nat → Int32} (d : Nat) {s : mG} {τ : (Int32 × mG)} (hJ : F_X12_readsRows s = some τ) : Rn N xs (d + 13) me232 0 [some (.ref 88), none] [] (SH, s) (some (.int τ.1), (SH, τ.2)) := k_X12_readsRows_r d hJ rfl
/-! IsHeInModel.putsLaw()I -/
theorem srt233 : m_srt mc233 = true := by decide +kernel
def C_X12_putsLaw_13 (N : Nat) (xs : Nat → Int32) (d : Nat) (r : Option Value × mH) (C : (Int32 × mG) → Prop) : ((Int32 × mG) ⊕ (Int32 × mG)) → Prop
  | .inl v => Rn N xs (d + 0) me233 13 [some (.ref 88), some (.int v.1)] [] (SH, v.2) r
  | .inr a => C a
def C_X12_putsLaw_107 (N : Nat) (xs : Nat → Int32) (d : Nat) (r : Option Value × mH) (C : (Int32 × mG) → Prop) : ((Int32 × mG) ⊕ (Int32 × mG)) → Prop
  | .inl v => Rn N xs (d + 0) me233 107 [some (.ref 88), some (.int v.1)] [] (SH, v.2) r
  | .inr a => C a
def F_X12_putsLaw_B107 (x1 : Int32) (s : mG) : Option ((Int32 × mG) ⊕ (Int32 × mG)) :=
  if ((ci 2) * (s.1 88 13)) ≤ x1 then
    some (Sum.inr ((s.1 88 12), s))
  else
    if x1 < 0 ∨ 820 ≤ x1.toNatClampNeg then none else
    if ((c16 1050) + x1) < 0 ∨ 1894 ≤ ((c16 1050) + x1).toNatClampNeg then none else
    let s6 : mG := (mu s.1 89 ((c16 1050) + x1).toNatClampNeg (s.1 93 x1.toNatClampNeg), s.2)
    some (Sum.inl ((x1 + ci 1), s6))
set_option maxRecDepth 4000 in
theorem k_X12_putsLaw_B107 {N : Nat} {xs : Nat → Int32} (d : Nat) {r : Option Value × mH} {s : mG} {x1 : Int32} {τ : ((Int32 × mG) ⊕ (Int32 × mG))} (hJ : F_X12_putsLaw_B107 x1 s = some τ) (hC : (C_X12_putsLaw_107 N xs d r (fun τ => r = (some (.int τ.1), (SH, τ.2)))) τ) : Rn N xs (d + 0) me233 107 [some (.ref 88), some (.int x1)] [] (SH, s) r := by
  unfold F_X12_putsLaw_B107 at hJ
  refine Rn_sq srt233 70 6 (pc' := (if ((ci 2) * (s.1 88 13)) ≤ x1 then 139 else 117)) (ls' := [some (.ref 88), some (.int x1)]) (st' := []) (h1 := (SH, s)) rfl (Rn_if (fun h3 => ?_) (fun h3 => ?_))
  · rw [if_pos h3] at hJ
    refine Rn_sq srt233 88 2 (pc' := 143) (ls' := [some (.ref 88), some (.int x1)]) (st' := [(.int (s.1 88 12))]) (h1 := (SH, s)) rfl ?_
    rw [← Option.some.inj hJ] at hC
    have hC : r = (some (.int (s.1 88 12)), (SH, s)) := hC
    subst hC
    exact Rn_ret srt233 90 rfl rfl rfl
  · rw [if_neg h3] at hJ
    refine Rn_sq srt233 76 8 (pc' := 131) (ls' := [some (.ref 88), some (.int x1)]) (st' := [(.int x1), (.ref 93), (.int ((c16 1050) + x1)), (.ref 89)]) (h1 := (SH, s)) rfl ?_
    split at hJ
    · cases hJ
    rename_i h4
    refine Rn_ev srt233 84 rfl rfl rfl (op_ia sh93 h4 (k := x1.toNatClampNeg) rfl) ?_
    split at hJ
    · cases hJ
    rename_i h5
    extract_lets s6 at hJ
    refine Rn_ev srt233 85 rfl rfl rfl (op_ias sh89 h5 (k := ((c16 1050) + x1).toNatClampNeg) rfl) ?_
    refine Rn_sq srt233 86 2 (pc' := 107) (ls' := [some (.ref 88), some (.int (x1 + ci 1))]) (st' := []) (h1 := (SH, s6)) rfl ?_
    rw [← Option.some.inj hJ] at hC
    exact hC
def F_X12_putsLaw_L107 (x1 : Int32) (s : mG) : Option (Int32 × mG) := whl (fun (v : (Int32 × mG)) => F_X12_putsLaw_B107 v.1 v.2) (x1, s)
theorem k_X12_putsLaw_L107 {N : Nat} {xs : Nat → Int32} (d : Nat) {r : Option Value × mH} {s : mG} {x1 : Int32} {τ : (Int32 × mG)} (hJ : F_X12_putsLaw_L107 x1 s = some τ) (hC : (fun τ => r = (some (.int τ.1), (SH, τ.2))) τ) : Rn N xs (d + 0) me233 107 [some (.ref 88), some (.int x1)] [] (SH, s) r :=
  whl_link (P := fun (v : (Int32 × mG)) => Rn N xs (d + 0) me233 107 [some (.ref 88), some (.int v.1)] [] (SH, v.2) r) (C := (C_X12_putsLaw_107 N xs d r (fun τ => r = (some (.int τ.1), (SH, τ.2))))) (fun v τ h1 h2 => k_X12_putsLaw_B107 d h1 h2) (fun _ h => h) (fun _ h => h) _ _ hJ hC
def F_X12_putsLaw_B13 (x1 : Int32) (s : mG) : Option ((Int32 × mG) ⊕ (Int32 × mG)) :=
  if (s.1 88 12) ≤ x1 then
    match F_X12_putsLaw_L107 (ci 0) s with
    | none => none
    | some τ => some (Sum.inr τ)
  else
    if ((ci 4) * x1) < 0 ∨ 64 ≤ ((ci 4) * x1).toNatClampNeg then none else
    if ((c16 985) + x1) < 0 ∨ 1894 ≤ ((c16 985) + x1).toNatClampNeg then none else
    let s9 : mG := (mu s.1 89 ((c16 985) + x1).toNatClampNeg (s.1 92 ((ci 4) * x1).toNatClampNeg), s.2)
    if (((ci 4) * x1) + (ci 1)) < 0 ∨ 64 ≤ (((ci 4) * x1) + (ci 1)).toNatClampNeg then none else
    if ((c16 1001) + x1) < 0 ∨ 1894 ≤ ((c16 1001) + x1).toNatClampNeg then none else
    let s12 : mG := (mu s9.1 89 ((c16 1001) + x1).toNatClampNeg (s9.1 92 (((ci 4) * x1) + (ci 1)).toNatClampNeg), s9.2)
    if (((ci 4) * x1) + (ci 2)) < 0 ∨ 64 ≤ (((ci 4) * x1) + (ci 2)).toNatClampNeg then none else
    if ((c16 1017) + x1) < 0 ∨ 1894 ≤ ((c16 1017) + x1).toNatClampNeg then none else
    let s15 : mG := (mu s12.1 89 ((c16 1017) + x1).toNatClampNeg (s12.1 92 (((ci 4) * x1) + (ci 2)).toNatClampNeg), s12.2)
    if (((ci 4) * x1) + (ci 3)) < 0 ∨ 64 ≤ (((ci 4) * x1) + (ci 3)).toNatClampNeg then none else
    if ((c16 1033) + x1) < 0 ∨ 1894 ≤ ((c16 1033) + x1).toNatClampNeg then none else
    let s18 : mG := (mu s15.1 89 ((c16 1033) + x1).toNatClampNeg (s15.1 92 (((ci 4) * x1) + (ci 3)).toNatClampNeg), s15.2)
    some (Sum.inl ((x1 + ci 1), s18))
set_option maxRecDepth 4000 in
theorem k_X12_putsLaw_B13 {N : Nat} {xs : Nat → Int32} (d : Nat) {r : Option Value × mH} {s : mG} {x1 : Int32} {τ : ((Int32 × mG) ⊕ (Int32 × mG))} (hJ : F_X12_putsLaw_B13 x1 s = some τ) (hC : (C_X12_putsLaw_13 N xs d r (fun τ => r = (some (.int τ.1), (SH, τ.2)))) τ) : Rn N xs (d + 0) me233 13 [some (.ref 88), some (.int x1)] [] (SH, s) r := by
  unfold F_X12_putsLaw_B13 at hJ
  refine Rn_sq srt233 8 4 (pc' := (if (s.1 88 12) ≤ x1 then 105 else 21)) (ls' := [some (.ref 88), some (.int x1)]) (st' := []) (h1 := (SH, s)) rfl (Rn_if (fun h2 => ?_) (fun h2 => ?_))
  · rw [if_pos h2] at hJ
    refine Rn_sq srt233 68 2 (pc' := 107) (ls' := [some (.ref 88), some (.int (ci 0))]) (st' := []) (h1 := (SH, s)) rfl ?_
    split at hJ
    · cases hJ
    · next τ1 hJ1 =>
      rw [← Option.some.inj hJ] at hC
      exact (k_X12_putsLaw_L107 d hJ1 hC)
  · rw [if_neg h2] at hJ
    refine Rn_sq srt233 12 10 (pc' := 37) (ls' := [some (.ref 88), some (.int x1)]) (st' := [(.int ((ci 4) * x1)), (.ref 92), (.int ((c16 985) + x1)), (.ref 89)]) (h1 := (SH, s)) rfl ?_
    split at hJ
    · cases hJ
    rename_i h7
    refine Rn_ev srt233 22 rfl rfl rfl (op_ia sh92 h7 (k := ((ci 4) * x1).toNatClampNeg) rfl) ?_
    split at hJ
    · cases hJ
    rename_i h8
    extract_lets s9 at hJ
    refine Rn_ev srt233 23 rfl rfl rfl (op_ias sh89 h8 (k := ((c16 985) + x1).toNatClampNeg) rfl) ?_
    refine Rn_sq srt233 24 12 (pc' := 57) (ls' := [some (.ref 88), some (.int x1)]) (st' := [(.int (((ci 4) * x1) + (ci 1))), (.ref 92), (.int ((c16 1001) + x1)), (.ref 89)]) (h1 := (SH, s9)) rfl ?_
    split at hJ
    · cases hJ
    rename_i h10
    refine Rn_ev srt233 36 rfl rfl rfl (op_ia sh92 h10 (k := (((ci 4) * x1) + (ci 1)).toNatClampNeg) rfl) ?_
    split at hJ
    · cases hJ
    rename_i h11
    extract_lets s12 at hJ
    refine Rn_ev srt233 37 rfl rfl rfl (op_ias sh89 h11 (k := ((c16 1001) + x1).toNatClampNeg) rfl) ?_
    refine Rn_sq srt233 38 12 (pc' := 77) (ls' := [some (.ref 88), some (.int x1)]) (st' := [(.int (((ci 4) * x1) + (ci 2))), (.ref 92), (.int ((c16 1017) + x1)), (.ref 89)]) (h1 := (SH, s12)) rfl ?_
    split at hJ
    · cases hJ
    rename_i h13
    refine Rn_ev srt233 50 rfl rfl rfl (op_ia sh92 h13 (k := (((ci 4) * x1) + (ci 2)).toNatClampNeg) rfl) ?_
    split at hJ
    · cases hJ
    rename_i h14
    extract_lets s15 at hJ
    refine Rn_ev srt233 51 rfl rfl rfl (op_ias sh89 h14 (k := ((c16 1017) + x1).toNatClampNeg) rfl) ?_
    refine Rn_sq srt233 52 12 (pc' := 97) (ls' := [some (.ref 88), some (.int x1)]) (st' := [(.int (((ci 4) * x1) + (ci 3))), (.ref 92), (.int ((c16 1033) + x1)), (.ref 89)]) (h1 := (SH, s15)) rfl ?_
    split at hJ
    · cases hJ
    rename_i h16
    refine Rn_ev srt233 64 rfl rfl rfl (op_ia sh92 h16 (k := (((ci 4) * x1) + (ci 3)).toNatClampNeg) rfl) ?_
    split at hJ
    · cases hJ
    rename_i h17
    extract_lets s18 at hJ
    refine Rn_ev srt233 65 rfl rfl rfl (op_ias sh89 h17 (k := ((c16 1033) + x1).toNatClampNeg) rfl) ?_
    refine Rn_sq srt233 66 2 (pc' := 13) (ls' := [some (.ref 88), some (.int (x1 + ci 1))]) (st' := []) (h1 := (SH, s18)) rfl ?_
    rw [← Option.some.inj hJ] at hC
    exact hC
def F_X12_putsLaw_L13 (x1 : Int32) (s : mG) : Option (Int32 × mG) := whl (fun (v : (Int32 × mG)) => F_X12_putsLaw_B13 v.1 v.2) (x1, s)
theorem k_X12_putsLaw_L13 {N : Nat} {xs : Nat → Int32} (d : Nat) {r : Option Value × mH} {s : mG} {x1 : Int32} {τ : (Int32 × mG)} (hJ : F_X12_putsLaw_L13 x1 s = some τ) (hC : (fun τ => r = (some (.int τ.1), (SH, τ.2))) τ) : Rn N xs (d + 0) me233 13 [some (.ref 88), some (.int x1)] [] (SH, s) r :=
  whl_link (P := fun (v : (Int32 × mG)) => Rn N xs (d + 0) me233 13 [some (.ref 88), some (.int v.1)] [] (SH, v.2) r) (C := (C_X12_putsLaw_13 N xs d r (fun τ => r = (some (.int τ.1), (SH, τ.2))))) (fun v τ h1 h2 => k_X12_putsLaw_B13 d h1 h2) (fun _ h => h) (fun _ h => h) _ _ hJ hC
def F_X12_putsLaw (s : mG) : Option (Int32 × mG) :=
  let s1 : mG := (mu s.1 89 117 (s.1 88 12), s.2)
  F_X12_putsLaw_L13 (ci 0) s1
set_option maxRecDepth 4000 in
theorem k_X12_putsLaw_r {N : Nat} {xs : Nat → Int32} (d : Nat) {r : Option Value × mH} {s : mG} {τ : (Int32 × mG)} (hJ : F_X12_putsLaw s = some τ) (hC : (fun τ => r = (some (.int τ.1), (SH, τ.2))) τ) : Rn N xs (d + 0) me233 0 [some (.ref 88), none] [] (SH, s) r := by
  unfold F_X12_putsLaw at hJ
  refine Rn_sq srt233 0 5 (pc' := 10) (ls' := [some (.ref 88), none]) (st' := [(.int (s.1 88 12)), (.int (c8 117)), (.ref 89)]) (h1 := (SH, s)) rfl ?_
  extract_lets s1 at hJ
  refine Rn_ev srt233 5 rfl rfl rfl (op_ias sh89 (by decide) (k := 117) rfl) ?_
  refine Rn_sq srt233 6 2 (pc' := 13) (ls' := [some (.ref 88), some (.int (ci 0))]) (st' := []) (h1 := (SH, s1)) rfl ?_
  exact (k_X12_putsLaw_L13 d hJ hC)
theorem k_X12_putsLaw {N : Nat} {xs : Nat → Int32} (d : Nat) {s : mG} {τ : (Int32 × mG)} (hJ : F_X12_putsLaw s = some τ) : Rn N xs (d + 0) me233 0 [some (.ref 88), none] [] (SH, s) (some (.int τ.1), (SH, τ.2)) := k_X12_putsLaw_r d hJ rfl
/-! IsHeInModel.putsSigns()I -/
theorem srt234 : m_srt mc234 = true := by decide +kernel
def C_X12_putsSigns_13 (N : Nat) (xs : Nat → Int32) (d : Nat) (r : Option Value × mH) (C : (Int32 × mG) → Prop) : ((Int32 × mG) ⊕ (Int32 × mG)) → Prop
  | .inl v => Rn N xs (d + 1) me234 13 [some (.ref 88), some (.int v.1)] [] (SH, v.2) r
  | .inr a => C a
def C_X12_putsSigns_47 (N : Nat) (xs : Nat → Int32) (d : Nat) (r : Option Value × mH) (C : (Int32 × mG) → Prop) : ((Int32 × mG) ⊕ (Int32 × mG)) → Prop
  | .inl v => Rn N xs (d + 1) me234 47 [some (.ref 88), some (.int v.1)] [] (SH, v.2) r
  | .inr a => C a
def F_X12_putsSigns_B47 (x1 : Int32) (s : mG) : Option ((Int32 × mG) ⊕ (Int32 × mG)) :=
  if (c8 72) ≤ x1 then
    match F_X12_forgets s with
    | none => none
    | some s5 =>
    some (Sum.inr ((s5.1 88 14), s5))
  else
    if ((c8 39) + x1) < 0 ∨ 1894 ≤ ((c8 39) + x1).toNatClampNeg then none else
    let s7 : mG := (mu s.1 89 ((c8 39) + x1).toNatClampNeg (ci (-1)), s.2)
    some (Sum.inl ((x1 + ci 1), s7))
set_option maxRecDepth 4000 in
theorem k_X12_putsSigns_B47 {N : Nat} {xs : Nat → Int32} (d : Nat) {r : Option Value × mH} {s : mG} {x1 : Int32} {τ : ((Int32 × mG) ⊕ (Int32 × mG))} (hJ : F_X12_putsSigns_B47 x1 s = some τ) (hC : (C_X12_putsSigns_47 N xs d r (fun τ => r = (some (.int τ.1), (SH, τ.2)))) τ) : Rn N xs (d + 1) me234 47 [some (.ref 88), some (.int x1)] [] (SH, s) r := by
  unfold F_X12_putsSigns_B47 at hJ
  refine Rn_sq srt234 28 3 (pc' := (if (c8 72) ≤ x1 then 69 else 53)) (ls' := [some (.ref 88), some (.int x1)]) (st' := []) (h1 := (SH, s)) rfl (Rn_if (fun h3 => ?_) (fun h3 => ?_))
  · rw [if_pos h3] at hJ
    refine Rn_sq srt234 40 1 (pc' := 70) (ls' := [some (.ref 88), some (.int x1)]) (st' := [(.ref 88)]) (h1 := (SH, s)) rfl ?_
    split at hJ
    · cases hJ
    rename_i s5 h4
    refine Rn_call srt234 41 rfl rfl rfl ⟨Nat.le_of_ble_eq_true rfl, Nat.le_of_ble_eq_true rfl, rfl, Nat.le_of_ble_eq_true rfl⟩ (k_X12_forgets (d) h4) (show Rn N xs (d + 1) me234 73 [some (.ref 88), some (.int x1)] [] (SH, s5) r from ?_)
    refine Rn_sq srt234 42 2 (pc' := 77) (ls' := [some (.ref 88), some (.int x1)]) (st' := [(.int (s5.1 88 14))]) (h1 := (SH, s5)) rfl ?_
    rw [← Option.some.inj hJ] at hC
    have hC : r = (some (.int (s5.1 88 14)), (SH, s5)) := hC
    subst hC
    exact Rn_ret srt234 44 rfl rfl rfl
  · rw [if_neg h3] at hJ
    refine Rn_sq srt234 31 6 (pc' := 62) (ls' := [some (.ref 88), some (.int x1)]) (st' := [(.int (ci (-1))), (.int ((c8 39) + x1)), (.ref 89)]) (h1 := (SH, s)) rfl ?_
    split at hJ
    · cases hJ
    rename_i h6
    extract_lets s7 at hJ
    refine Rn_ev srt234 37 rfl rfl rfl (op_ias sh89 h6 (k := ((c8 39) + x1).toNatClampNeg) rfl) ?_
    refine Rn_sq srt234 38 2 (pc' := 47) (ls' := [some (.ref 88), some (.int (x1 + ci 1))]) (st' := []) (h1 := (SH, s7)) rfl ?_
    rw [← Option.some.inj hJ] at hC
    exact hC
def F_X12_putsSigns_L47 (x1 : Int32) (s : mG) : Option (Int32 × mG) := whl (fun (v : (Int32 × mG)) => F_X12_putsSigns_B47 v.1 v.2) (x1, s)
theorem k_X12_putsSigns_L47 {N : Nat} {xs : Nat → Int32} (d : Nat) {r : Option Value × mH} {s : mG} {x1 : Int32} {τ : (Int32 × mG)} (hJ : F_X12_putsSigns_L47 x1 s = some τ) (hC : (fun τ => r = (some (.int τ.1), (SH, τ.2))) τ) : Rn N xs (d + 1) me234 47 [some (.ref 88), some (.int x1)] [] (SH, s) r :=
  whl_link (P := fun (v : (Int32 × mG)) => Rn N xs (d + 1) me234 47 [some (.ref 88), some (.int v.1)] [] (SH, v.2) r) (C := (C_X12_putsSigns_47 N xs d r (fun τ => r = (some (.int τ.1), (SH, τ.2))))) (fun v τ h1 h2 => k_X12_putsSigns_B47 d h1 h2) (fun _ h => h) (fun _ h => h) _ _ hJ hC
def F_X12_putsSigns_B13 (x1 : Int32) (s : mG) : Option ((Int32 × mG) ⊕ (Int32 × mG)) :=
  if ((ci 2) * (s.1 88 14)) ≤ x1 then
    match F_X12_putsSigns_L47 (ci 0) s with
    | none => none
    | some τ => some (Sum.inr τ)
  else
    if x1 < 0 ∨ 48 ≤ x1.toNatClampNeg then none else
    if ((c16 143) + x1) < 0 ∨ 1894 ≤ ((c16 143) + x1).toNatClampNeg then none else
    let s10 : mG := (mu s.1 89 ((c16 143) + x1).toNatClampNeg (s.1 94 x1.toNatClampNeg), s.2)
    some (Sum.inl ((x1 + ci 1), s10))
set_option maxRecDepth 4000 in
theorem k_X12_putsSigns_B13 {N : Nat} {xs : Nat → Int32} (d : Nat) {r : Option Value × mH} {s : mG} {x1 : Int32} {τ : ((Int32 × mG) ⊕ (Int32 × mG))} (hJ : F_X12_putsSigns_B13 x1 s = some τ) (hC : (C_X12_putsSigns_13 N xs d r (fun τ => r = (some (.int τ.1), (SH, τ.2)))) τ) : Rn N xs (d + 1) me234 13 [some (.ref 88), some (.int x1)] [] (SH, s) r := by
  unfold F_X12_putsSigns_B13 at hJ
  refine Rn_sq srt234 8 6 (pc' := (if ((ci 2) * (s.1 88 14)) ≤ x1 then 45 else 23)) (ls' := [some (.ref 88), some (.int x1)]) (st' := []) (h1 := (SH, s)) rfl (Rn_if (fun h2 => ?_) (fun h2 => ?_))
  · rw [if_pos h2] at hJ
    refine Rn_sq srt234 26 2 (pc' := 47) (ls' := [some (.ref 88), some (.int (ci 0))]) (st' := []) (h1 := (SH, s)) rfl ?_
    split at hJ
    · cases hJ
    · next τ1 hJ1 =>
      rw [← Option.some.inj hJ] at hC
      exact (k_X12_putsSigns_L47 d hJ1 hC)
  · rw [if_neg h2] at hJ
    refine Rn_sq srt234 14 8 (pc' := 37) (ls' := [some (.ref 88), some (.int x1)]) (st' := [(.int x1), (.ref 94), (.int ((c16 143) + x1)), (.ref 89)]) (h1 := (SH, s)) rfl ?_
    split at hJ
    · cases hJ
    rename_i h8
    refine Rn_ev srt234 22 rfl rfl rfl (op_ia sh94 h8 (k := x1.toNatClampNeg) rfl) ?_
    split at hJ
    · cases hJ
    rename_i h9
    extract_lets s10 at hJ
    refine Rn_ev srt234 23 rfl rfl rfl (op_ias sh89 h9 (k := ((c16 143) + x1).toNatClampNeg) rfl) ?_
    refine Rn_sq srt234 24 2 (pc' := 13) (ls' := [some (.ref 88), some (.int (x1 + ci 1))]) (st' := []) (h1 := (SH, s10)) rfl ?_
    rw [← Option.some.inj hJ] at hC
    exact hC
def F_X12_putsSigns_L13 (x1 : Int32) (s : mG) : Option (Int32 × mG) := whl (fun (v : (Int32 × mG)) => F_X12_putsSigns_B13 v.1 v.2) (x1, s)
theorem k_X12_putsSigns_L13 {N : Nat} {xs : Nat → Int32} (d : Nat) {r : Option Value × mH} {s : mG} {x1 : Int32} {τ : (Int32 × mG)} (hJ : F_X12_putsSigns_L13 x1 s = some τ) (hC : (fun τ => r = (some (.int τ.1), (SH, τ.2))) τ) : Rn N xs (d + 1) me234 13 [some (.ref 88), some (.int x1)] [] (SH, s) r :=
  whl_link (P := fun (v : (Int32 × mG)) => Rn N xs (d + 1) me234 13 [some (.ref 88), some (.int v.1)] [] (SH, v.2) r) (C := (C_X12_putsSigns_13 N xs d r (fun τ => r = (some (.int τ.1), (SH, τ.2))))) (fun v τ h1 h2 => k_X12_putsSigns_B13 d h1 h2) (fun _ h => h) (fun _ h => h) _ _ hJ hC
def F_X12_putsSigns (s : mG) : Option (Int32 × mG) :=
  let s1 : mG := (mu s.1 89 115 (s.1 88 14), s.2)
  F_X12_putsSigns_L13 (ci 0) s1
set_option maxRecDepth 4000 in
theorem k_X12_putsSigns_r {N : Nat} {xs : Nat → Int32} (d : Nat) {r : Option Value × mH} {s : mG} {τ : (Int32 × mG)} (hJ : F_X12_putsSigns s = some τ) (hC : (fun τ => r = (some (.int τ.1), (SH, τ.2))) τ) : Rn N xs (d + 1) me234 0 [some (.ref 88), none] [] (SH, s) r := by
  unfold F_X12_putsSigns at hJ
  refine Rn_sq srt234 0 5 (pc' := 10) (ls' := [some (.ref 88), none]) (st' := [(.int (s.1 88 14)), (.int (c8 115)), (.ref 89)]) (h1 := (SH, s)) rfl ?_
  extract_lets s1 at hJ
  refine Rn_ev srt234 5 rfl rfl rfl (op_ias sh89 (by decide) (k := 115) rfl) ?_
  refine Rn_sq srt234 6 2 (pc' := 13) (ls' := [some (.ref 88), some (.int (ci 0))]) (st' := []) (h1 := (SH, s1)) rfl ?_
  exact (k_X12_putsSigns_L13 d hJ hC)
theorem k_X12_putsSigns {N : Nat} {xs : Nat → Int32} (d : Nat) {s : mG} {τ : (Int32 × mG)} (hJ : F_X12_putsSigns s = some τ) : Rn N xs (d + 1) me234 0 [some (.ref 88), none] [] (SH, s) (some (.int τ.1), (SH, τ.2)) := k_X12_putsSigns_r d hJ rfl
/-! IsHeInModel.putsShifts()I -/
theorem srt235 : m_srt mc235 = true := by decide +kernel
def C_X12_putsShifts_13 (N : Nat) (xs : Nat → Int32) (d : Nat) (r : Option Value × mH) (C : (Int32 × mG) → Prop) : ((Int32 × mG) ⊕ (Int32 × mG)) → Prop
  | .inl v => Rn N xs (d + 1) me235 13 [some (.ref 88), some (.int v.1)] [] (SH, v.2) r
  | .inr a => C a
def F_X12_putsShifts_B13 (x1 : Int32) (s : mG) : Option ((Int32 × mG) ⊕ (Int32 × mG)) :=
  if ((ci 4) * (s.1 88 14)) ≤ x1 then
    match F_X12_forgets s with
    | none => none
    | some s4 =>
    some (Sum.inr ((s4.1 88 14), s4))
  else
    if x1 < 0 ∨ 48 ≤ x1.toNatClampNeg then none else
    if ((c16 155) + x1) < 0 ∨ 1894 ≤ ((c16 155) + x1).toNatClampNeg then none else
    let s7 : mG := (mu s.1 89 ((c16 155) + x1).toNatClampNeg (s.1 94 x1.toNatClampNeg), s.2)
    some (Sum.inl ((x1 + ci 1), s7))
set_option maxRecDepth 4000 in
theorem k_X12_putsShifts_B13 {N : Nat} {xs : Nat → Int32} (d : Nat) {r : Option Value × mH} {s : mG} {x1 : Int32} {τ : ((Int32 × mG) ⊕ (Int32 × mG))} (hJ : F_X12_putsShifts_B13 x1 s = some τ) (hC : (C_X12_putsShifts_13 N xs d r (fun τ => r = (some (.int τ.1), (SH, τ.2)))) τ) : Rn N xs (d + 1) me235 13 [some (.ref 88), some (.int x1)] [] (SH, s) r := by
  unfold F_X12_putsShifts_B13 at hJ
  refine Rn_sq srt235 8 6 (pc' := (if ((ci 4) * (s.1 88 14)) ≤ x1 then 45 else 23)) (ls' := [some (.ref 88), some (.int x1)]) (st' := []) (h1 := (SH, s)) rfl (Rn_if (fun h2 => ?_) (fun h2 => ?_))
  · rw [if_pos h2] at hJ
    refine Rn_sq srt235 26 1 (pc' := 46) (ls' := [some (.ref 88), some (.int x1)]) (st' := [(.ref 88)]) (h1 := (SH, s)) rfl ?_
    split at hJ
    · cases hJ
    rename_i s4 h3
    refine Rn_call srt235 27 rfl rfl rfl ⟨Nat.le_of_ble_eq_true rfl, Nat.le_of_ble_eq_true rfl, rfl, Nat.le_of_ble_eq_true rfl⟩ (k_X12_forgets (d) h3) (show Rn N xs (d + 1) me235 49 [some (.ref 88), some (.int x1)] [] (SH, s4) r from ?_)
    refine Rn_sq srt235 28 2 (pc' := 53) (ls' := [some (.ref 88), some (.int x1)]) (st' := [(.int (s4.1 88 14))]) (h1 := (SH, s4)) rfl ?_
    rw [← Option.some.inj hJ] at hC
    have hC : r = (some (.int (s4.1 88 14)), (SH, s4)) := hC
    subst hC
    exact Rn_ret srt235 30 rfl rfl rfl
  · rw [if_neg h2] at hJ
    refine Rn_sq srt235 14 8 (pc' := 37) (ls' := [some (.ref 88), some (.int x1)]) (st' := [(.int x1), (.ref 94), (.int ((c16 155) + x1)), (.ref 89)]) (h1 := (SH, s)) rfl ?_
    split at hJ
    · cases hJ
    rename_i h5
    refine Rn_ev srt235 22 rfl rfl rfl (op_ia sh94 h5 (k := x1.toNatClampNeg) rfl) ?_
    split at hJ
    · cases hJ
    rename_i h6
    extract_lets s7 at hJ
    refine Rn_ev srt235 23 rfl rfl rfl (op_ias sh89 h6 (k := ((c16 155) + x1).toNatClampNeg) rfl) ?_
    refine Rn_sq srt235 24 2 (pc' := 13) (ls' := [some (.ref 88), some (.int (x1 + ci 1))]) (st' := []) (h1 := (SH, s7)) rfl ?_
    rw [← Option.some.inj hJ] at hC
    exact hC
def F_X12_putsShifts_L13 (x1 : Int32) (s : mG) : Option (Int32 × mG) := whl (fun (v : (Int32 × mG)) => F_X12_putsShifts_B13 v.1 v.2) (x1, s)
theorem k_X12_putsShifts_L13 {N : Nat} {xs : Nat → Int32} (d : Nat) {r : Option Value × mH} {s : mG} {x1 : Int32} {τ : (Int32 × mG)} (hJ : F_X12_putsShifts_L13 x1 s = some τ) (hC : (fun τ => r = (some (.int τ.1), (SH, τ.2))) τ) : Rn N xs (d + 1) me235 13 [some (.ref 88), some (.int x1)] [] (SH, s) r :=
  whl_link (P := fun (v : (Int32 × mG)) => Rn N xs (d + 1) me235 13 [some (.ref 88), some (.int v.1)] [] (SH, v.2) r) (C := (C_X12_putsShifts_13 N xs d r (fun τ => r = (some (.int τ.1), (SH, τ.2))))) (fun v τ h1 h2 => k_X12_putsShifts_B13 d h1 h2) (fun _ h => h) (fun _ h => h) _ _ hJ hC
def F_X12_putsShifts (s : mG) : Option (Int32 × mG) :=
  let s1 : mG := (mu s.1 89 116 (s.1 88 14), s.2)
  F_X12_putsShifts_L13 (ci 0) s1
set_option maxRecDepth 4000 in
theorem k_X12_putsShifts_r {N : Nat} {xs : Nat → Int32} (d : Nat) {r : Option Value × mH} {s : mG} {τ : (Int32 × mG)} (hJ : F_X12_putsShifts s = some τ) (hC : (fun τ => r = (some (.int τ.1), (SH, τ.2))) τ) : Rn N xs (d + 1) me235 0 [some (.ref 88), none] [] (SH, s) r := by
  unfold F_X12_putsShifts at hJ
  refine Rn_sq srt235 0 5 (pc' := 10) (ls' := [some (.ref 88), none]) (st' := [(.int (s.1 88 14)), (.int (c8 116)), (.ref 89)]) (h1 := (SH, s)) rfl ?_
  extract_lets s1 at hJ
  refine Rn_ev srt235 5 rfl rfl rfl (op_ias sh89 (by decide) (k := 116) rfl) ?_
  refine Rn_sq srt235 6 2 (pc' := 13) (ls' := [some (.ref 88), some (.int (ci 0))]) (st' := []) (h1 := (SH, s1)) rfl ?_
  exact (k_X12_putsShifts_L13 d hJ hC)
theorem k_X12_putsShifts {N : Nat} {xs : Nat → Int32} (d : Nat) {s : mG} {τ : (Int32 × mG)} (hJ : F_X12_putsShifts s = some τ) : Rn N xs (d + 1) me235 0 [some (.ref 88), none] [] (SH, s) (some (.int τ.1), (SH, τ.2)) := k_X12_putsShifts_r d hJ rfl
/-! IsHeInModel.text(I)I -/
theorem srt236 : m_srt mc236 = true := by decide +kernel
def F_X12_text_60 (x1 : Int32) (y0 : Int32) (s : mG) : Option (Int32 × mG) :=
  let s16 : mG := (mu s.1 88 15 (ci 0), s.2)
  if y0 = 0 then
    let s18 : mG := (mu s16.1 88 22 (s16.1 88 20), s16.2)
    let s19 : mG := (mu s18.1 88 24 (s18.1 88 21), s18.2)
    some ((ci (-1)), s19)
  else
    if x1 = 0 then
      match F_X12_putsLaw s16 with
      | none => none
      | some (v23, s22) =>
      some (v23, s22)
    else
      if x1 = (ci 1) then
        match F_X12_putsSigns s16 with
        | none => none
        | some (v27, s26) =>
        some (v27, s26)
      else
        match F_X12_putsShifts s16 with
        | none => none
        | some (v30, s29) =>
        some (v30, s29)
set_option maxRecDepth 4000 in
theorem k_X12_text_60 {N : Nat} {xs : Nat → Int32} (d : Nat) {r : Option Value × mH} {s : mG} {x1 : Int32} {y0 : Int32} {τ : (Int32 × mG)} (hJ : F_X12_text_60 x1 y0 s = some τ) (hC : (fun τ => r = (some (.int τ.1), (SH, τ.2))) τ) : Rn N xs (d + 15) me236 60 [some (.ref 88), some (.int x1), none] [(.int y0)] (SH, s) r := by
  unfold F_X12_text_60 at hJ
  extract_lets s16 at hJ
  refine Rn_sq srt236 34 6 (pc' := (if y0 = 0 then 98 else 70)) (ls' := [some (.ref 88), some (.int x1), some (.int y0)]) (st' := []) (h1 := (SH, s16)) rfl (Rn_if (fun h17 => ?_) (fun h17 => ?_))
  · rw [if_pos h17] at hJ
    extract_lets s18 at hJ
    extract_lets s19 at hJ
    refine Rn_sq srt236 54 9 (pc' := 115) (ls' := [some (.ref 88), some (.int x1), some (.int y0)]) (st' := [(.int (ci (-1)))]) (h1 := (SH, s19)) rfl ?_
    rw [← Option.some.inj hJ] at hC
    have hC : r = (some (.int (ci (-1))), (SH, s19)) := hC
    subst hC
    exact Rn_ret srt236 63 rfl rfl rfl
  · rw [if_neg h17] at hJ
    refine Rn_sq srt236 40 2 (pc' := (if x1 = 0 then 74 else 81)) (ls' := [some (.ref 88), some (.int x1), some (.int y0)]) (st' := []) (h1 := (SH, s16)) rfl (Rn_if (fun h20 => ?_) (fun h20 => ?_))
    · rw [if_pos h20] at hJ
      refine Rn_sq srt236 42 1 (pc' := 75) (ls' := [some (.ref 88), some (.int x1), some (.int y0)]) (st' := [(.ref 88)]) (h1 := (SH, s16)) rfl ?_
      split at hJ
      · cases hJ
      rename_i v23 s22 h21
      refine Rn_call srt236 43 rfl rfl rfl ⟨Nat.le_of_ble_eq_true rfl, Nat.le_of_ble_eq_true rfl, rfl, Nat.le_of_ble_eq_true rfl⟩ (k_X12_putsLaw (d + 14) h21) (show Rn N xs (d + 15) me236 78 [some (.ref 88), some (.int x1), some (.int y0)] [(.int v23)] (SH, s22) r from ?_)
      refine Rn_sq srt236 44 1 (pc' := 97) (ls' := [some (.ref 88), some (.int x1), some (.int y0)]) (st' := [(.int v23)]) (h1 := (SH, s22)) rfl ?_
      rw [← Option.some.inj hJ] at hC
      have hC : r = (some (.int v23), (SH, s22)) := hC
      subst hC
      exact Rn_ret srt236 53 rfl rfl rfl
    · rw [if_neg h20] at hJ
      refine Rn_sq srt236 45 3 (pc' := (if x1 = (ci 1) then 86 else 93)) (ls' := [some (.ref 88), some (.int x1), some (.int y0)]) (st' := []) (h1 := (SH, s16)) rfl (Rn_if (fun h24 => ?_) (fun h24 => ?_))
      · rw [if_pos h24] at hJ
        refine Rn_sq srt236 48 1 (pc' := 87) (ls' := [some (.ref 88), some (.int x1), some (.int y0)]) (st' := [(.ref 88)]) (h1 := (SH, s16)) rfl ?_
        split at hJ
        · cases hJ
        rename_i v27 s26 h25
        refine Rn_call srt236 49 rfl rfl rfl ⟨Nat.le_of_ble_eq_true rfl, Nat.le_of_ble_eq_true rfl, rfl, Nat.le_of_ble_eq_true rfl⟩ (k_X12_putsSigns (d + 13) h25) (show Rn N xs (d + 15) me236 90 [some (.ref 88), some (.int x1), some (.int y0)] [(.int v27)] (SH, s26) r from ?_)
        refine Rn_sq srt236 50 1 (pc' := 97) (ls' := [some (.ref 88), some (.int x1), some (.int y0)]) (st' := [(.int v27)]) (h1 := (SH, s26)) rfl ?_
        rw [← Option.some.inj hJ] at hC
        have hC : r = (some (.int v27), (SH, s26)) := hC
        subst hC
        exact Rn_ret srt236 53 rfl rfl rfl
      · rw [if_neg h24] at hJ
        refine Rn_sq srt236 51 1 (pc' := 94) (ls' := [some (.ref 88), some (.int x1), some (.int y0)]) (st' := [(.ref 88)]) (h1 := (SH, s16)) rfl ?_
        split at hJ
        · cases hJ
        rename_i v30 s29 h28
        refine Rn_call srt236 52 rfl rfl rfl ⟨Nat.le_of_ble_eq_true rfl, Nat.le_of_ble_eq_true rfl, rfl, Nat.le_of_ble_eq_true rfl⟩ (k_X12_putsShifts (d + 13) h28) (show Rn N xs (d + 15) me236 97 [some (.ref 88), some (.int x1), some (.int y0)] [(.int v30)] (SH, s29) r from ?_)
        rw [← Option.some.inj hJ] at hC
        have hC : r = (some (.int v30), (SH, s29)) := hC
        subst hC
        exact Rn_ret srt236 53 rfl rfl rfl
def F_X12_text (a1 : Int32) (s : mG) : Option (Int32 × mG) :=
  let s1 : mG := (mu s.1 88 22 (ci 0), s.2)
  let s2 : mG := (mu s1.1 88 24 (ci (-1)), s1.2)
  match F_X12_isIn s2 a1 (ci 0) (ci 2) with
  | none => none
  | some v4 =>
  if v4 = 0 then
    let s6 : mG := (mu s2.1 88 15 (ci 0), s2.2)
    some ((ci (-1)), s6)
  else
    let s7 : mG := (mu s2.1 88 20 (ci 0), s2.2)
    let s8 : mG := (mu s7.1 88 16 (ci 0), s7.2)
    let s9 : mG := (mu s8.1 88 11 a1, s8.2)
    match F_X12_next0 s9 with
    | none => none
    | some s11 =>
    if a1 = 0 then
      match F_X12_readsLaw s11 with
      | none => none
      | some (v15, s14) =>
      F_X12_text_60 a1 v15 s14
    else
      match F_X12_readsRows s11 with
      | none => none
      | some (v33, s32) =>
      F_X12_text_60 a1 v33 s32
set_option maxRecDepth 4000 in
theorem k_X12_text_r {N : Nat} {xs : Nat → Int32} (d : Nat) {r : Option Value × mH} {s : mG} {a1 : Int32} {τ : (Int32 × mG)} (hJ : F_X12_text a1 s = some τ) (hC : (fun τ => r = (some (.int τ.1), (SH, τ.2))) τ) : Rn N xs (d + 15) me236 0 [some (.ref 88), some (.int a1), none] [] (SH, s) r := by
  unfold F_X12_text at hJ
  extract_lets s1 at hJ
  extract_lets s2 at hJ
  refine Rn_sq srt236 0 9 (pc' := 13) (ls' := [some (.ref 88), some (.int a1), none]) (st' := [(.int (ci 2)), (.int (ci 0)), (.int a1)]) (h1 := (SH, s2)) rfl ?_
  split at hJ
  · cases hJ
  rename_i v4 h3
  refine Rn_call srt236 9 rfl rfl rfl ⟨Nat.le_of_ble_eq_true rfl, Nat.le_of_ble_eq_true rfl, rfl, Nat.le_of_ble_eq_true rfl⟩ (k_X12_isIn (d + 14) h3) (show Rn N xs (d + 15) me236 16 [some (.ref 88), some (.int a1), none] [(.int v4)] (SH, s2) r from ?_)
  refine Rn_sq srt236 10 1 (pc' := (if v4 = 0 then 19 else 26)) (ls' := [some (.ref 88), some (.int a1), none]) (st' := []) (h1 := (SH, s2)) rfl (Rn_if (fun h5 => ?_) (fun h5 => ?_))
  · rw [if_pos h5] at hJ
    extract_lets s6 at hJ
    refine Rn_sq srt236 11 4 (pc' := 25) (ls' := [some (.ref 88), some (.int a1), none]) (st' := [(.int (ci (-1)))]) (h1 := (SH, s6)) rfl ?_
    rw [← Option.some.inj hJ] at hC
    have hC : r = (some (.int (ci (-1))), (SH, s6)) := hC
    subst hC
    exact Rn_ret srt236 15 rfl rfl rfl
  · rw [if_neg h5] at hJ
    extract_lets s7 at hJ
    extract_lets s8 at hJ
    extract_lets s9 at hJ
    refine Rn_sq srt236 16 10 (pc' := 42) (ls' := [some (.ref 88), some (.int a1), none]) (st' := [(.ref 88)]) (h1 := (SH, s9)) rfl ?_
    split at hJ
    · cases hJ
    rename_i s11 h10
    refine Rn_call srt236 26 rfl rfl rfl ⟨Nat.le_of_ble_eq_true rfl, Nat.le_of_ble_eq_true rfl, rfl, Nat.le_of_ble_eq_true rfl⟩ (k_X12_next0 (d + 5) h10) (show Rn N xs (d + 15) me236 45 [some (.ref 88), some (.int a1), none] [] (SH, s11) r from ?_)
    refine Rn_sq srt236 27 2 (pc' := (if a1 = 0 then 49 else 56)) (ls' := [some (.ref 88), some (.int a1), none]) (st' := []) (h1 := (SH, s11)) rfl (Rn_if (fun h12 => ?_) (fun h12 => ?_))
    · rw [if_pos h12] at hJ
      refine Rn_sq srt236 29 1 (pc' := 50) (ls' := [some (.ref 88), some (.int a1), none]) (st' := [(.ref 88)]) (h1 := (SH, s11)) rfl ?_
      split at hJ
      · cases hJ
      rename_i v15 s14 h13
      refine Rn_call srt236 30 rfl rfl rfl ⟨Nat.le_of_ble_eq_true rfl, Nat.le_of_ble_eq_true rfl, rfl, Nat.le_of_ble_eq_true rfl⟩ (k_X12_readsLaw (d) h13) (show Rn N xs (d + 15) me236 53 [some (.ref 88), some (.int a1), none] [(.int v15)] (SH, s14) r from ?_)
      refine Rn_sq srt236 31 1 (pc' := 60) (ls' := [some (.ref 88), some (.int a1), none]) (st' := [(.int v15)]) (h1 := (SH, s14)) rfl ?_
      exact (k_X12_text_60 d hJ hC)
    · rw [if_neg h12] at hJ
      refine Rn_sq srt236 32 1 (pc' := 57) (ls' := [some (.ref 88), some (.int a1), none]) (st' := [(.ref 88)]) (h1 := (SH, s11)) rfl ?_
      split at hJ
      · cases hJ
      rename_i v33 s32 h31
      refine Rn_call srt236 33 rfl rfl rfl ⟨Nat.le_of_ble_eq_true rfl, Nat.le_of_ble_eq_true rfl, rfl, Nat.le_of_ble_eq_true rfl⟩ (k_X12_readsRows (d + 1) h31) (show Rn N xs (d + 15) me236 60 [some (.ref 88), some (.int a1), none] [(.int v33)] (SH, s32) r from ?_)
      exact (k_X12_text_60 d hJ hC)
theorem k_X12_text {N : Nat} {xs : Nat → Int32} (d : Nat) {s : mG} {a1 : Int32} {τ : (Int32 × mG)} (hJ : F_X12_text a1 s = some τ) : Rn N xs (d + 15) me236 0 [some (.ref 88), some (.int a1), none] [] (SH, s) (some (.int τ.1), (SH, τ.2)) := k_X12_text_r d hJ rfl
/-! IsHeInModel.fault(I)I -/
theorem srt237 : m_srt mc237 = true := by decide +kernel
def F_X12_fault (s : mG) (a1 : Int32) : Option (Int32) :=
  if a1 = 0 then
    some (s.1 88 22)
  else
    if a1 = (ci 1) then
      some (s.1 88 24)
    else
      some (ci (-1))
set_option maxRecDepth 4000 in
theorem k_X12_fault_r {N : Nat} {xs : Nat → Int32} (d : Nat) {r : Option Value × mH} {s : mG} {a1 : Int32} {τ : (Int32)} (hJ : F_X12_fault s a1 = some τ) (hC : (fun τ => r = (some (.int τ), (SH, s))) τ) : Rn N xs (d + 0) me237 0 [some (.ref 88), some (.int a1)] [] (SH, s) r := by
  unfold F_X12_fault at hJ
  refine Rn_sq srt237 0 2 (pc' := (if a1 = 0 then 4 else 11)) (ls' := [some (.ref 88), some (.int a1)]) (st' := []) (h1 := (SH, s)) rfl (Rn_if (fun h1 => ?_) (fun h1 => ?_))
  · rw [if_pos h1] at hJ
    refine Rn_sq srt237 2 3 (pc' := 24) (ls' := [some (.ref 88), some (.int a1)]) (st' := [(.int (s.1 88 22))]) (h1 := (SH, s)) rfl ?_
    rw [← Option.some.inj hJ] at hC
    have hC : r = (some (.int (s.1 88 22)), (SH, s)) := hC
    subst hC
    exact Rn_ret srt237 12 rfl rfl rfl
  · rw [if_neg h1] at hJ
    refine Rn_sq srt237 5 3 (pc' := (if a1 = (ci 1) then 16 else 23)) (ls' := [some (.ref 88), some (.int a1)]) (st' := []) (h1 := (SH, s)) rfl (Rn_if (fun h2 => ?_) (fun h2 => ?_))
    · rw [if_pos h2] at hJ
      refine Rn_sq srt237 8 3 (pc' := 24) (ls' := [some (.ref 88), some (.int a1)]) (st' := [(.int (s.1 88 24))]) (h1 := (SH, s)) rfl ?_
      rw [← Option.some.inj hJ] at hC
      have hC : r = (some (.int (s.1 88 24)), (SH, s)) := hC
      subst hC
      exact Rn_ret srt237 12 rfl rfl rfl
    · rw [if_neg h2] at hJ
      refine Rn_sq srt237 11 1 (pc' := 24) (ls' := [some (.ref 88), some (.int a1)]) (st' := [(.int (ci (-1)))]) (h1 := (SH, s)) rfl ?_
      rw [← Option.some.inj hJ] at hC
      have hC : r = (some (.int (ci (-1))), (SH, s)) := hC
      subst hC
      exact Rn_ret srt237 12 rfl rfl rfl
theorem k_X12_fault {N : Nat} {xs : Nat → Int32} (d : Nat) {s : mG} {a1 : Int32} {τ : (Int32)} (hJ : F_X12_fault s a1 = some τ) : Rn N xs (d + 0) me237 0 [some (.ref 88), some (.int a1)] [] (SH, s) (some (.int τ), (SH, s)) := k_X12_fault_r d hJ rfl
/-! IsHeInModel.both(III)I -/
theorem srt238 : m_srt mc238 = true := by decide +kernel
def F_X12_both_101 (s : mG) (x1 : Int32) (x2 : Int32) : Option (Int32) :=
  some (x1 ||| x2)
set_option maxRecDepth 4000 in
theorem k_X12_both_101 {N : Nat} {xs : Nat → Int32} (d : Nat) {r : Option Value × mH} {s : mG} {x1 : Int32} {x2 : Int32} {τ : (Int32)} (hJ : F_X12_both_101 s x1 x2 = some τ) (hC : (fun τ => r = (some (.int τ), (SH, s))) τ) : Rn N xs (d + 0) me238 101 [none, some (.int x1), some (.int x2)] [] (SH, s) r := by
  unfold F_X12_both_101 at hJ
  refine Rn_sq srt238 39 3 (pc' := 104) (ls' := [none, some (.int x1), some (.int x2)]) (st' := [(.int (x1 ||| x2))]) (h1 := (SH, s)) rfl ?_
  rw [← Option.some.inj hJ] at hC
  have hC : r = (some (.int (x1 ||| x2)), (SH, s)) := hC
  subst hC
  exact Rn_ret srt238 42 rfl rfl rfl
def F_X12_both (s : mG) (a1 : Int32) (a2 : Int32) (a3 : Int32) : Option (Int32) :=
  if a1 = ci 23 then
    some (a2 + a3)
  else
  if a1 = ci 24 then
    some (a2 - a3)
  else
  if a1 = ci 25 then
    some (a2 * a3)
  else
  if a1 = ci 26 then
    F_X12_both_101 s a2 a3
  else
  if a1 = ci 27 then
    if a3 ≤ a2 then
      some (ci 0)
    else
      some (ci 1)
  else
  if a1 = ci 28 then
    if a2 = a3 then
      some (ci 1)
    else
      some (ci 0)
  else
  if a1 = ci 29 then
    if a2 ≤ a3 then
      some (ci 0)
    else
      some (ci 1)
  else
  if a1 = ci 30 then
    F_X12_both_101 s a2 a3
  else
  if a1 = ci 31 then
    some (a2 &&& a3)
  else
  F_X12_both_101 s a2 a3
set_option maxRecDepth 4000 in
theorem k_X12_both_r {N : Nat} {xs : Nat → Int32} (d : Nat) {r : Option Value × mH} {s : mG} {a1 : Int32} {a2 : Int32} {a3 : Int32} {τ : (Int32)} (hJ : F_X12_both s a1 a2 a3 = some τ) (hC : (fun τ => r = (some (.int τ), (SH, s))) τ) : Rn N xs (d + 0) me238 0 [some (.int a1), some (.int a2), some (.int a3)] [] (SH, s) r := by
  unfold F_X12_both at hJ
  refine Rn_sq srt238 0 1 (pc' := 1) (ls' := [some (.int a1), some (.int a2), some (.int a3)]) (st' := [(.int a1)]) (h1 := (SH, s)) rfl ?_
  by_cases h1 : a1 = ci 23
  · rw [if_pos h1] at hJ
    refine Rn_ev srt238 1 rfl rfl rfl (op_sw h1 (show _ = some (52, _) from rfl)) ?_
    refine Rn_sq srt238 2 3 (pc' := 55) (ls' := [some (.int a1), some (.int a2), some (.int a3)]) (st' := [(.int (a2 + a3))]) (h1 := (SH, s)) rfl ?_
    rw [← Option.some.inj hJ] at hC
    have hC : r = (some (.int (a2 + a3)), (SH, s)) := hC
    subst hC
    exact Rn_ret srt238 5 rfl rfl rfl
  rw [if_neg h1] at hJ
  by_cases h2 : a1 = ci 24
  · rw [if_pos h2] at hJ
    refine Rn_ev srt238 1 rfl rfl rfl (op_sw h2 (show _ = some (56, _) from rfl)) ?_
    refine Rn_sq srt238 6 3 (pc' := 59) (ls' := [some (.int a1), some (.int a2), some (.int a3)]) (st' := [(.int (a2 - a3))]) (h1 := (SH, s)) rfl ?_
    rw [← Option.some.inj hJ] at hC
    have hC : r = (some (.int (a2 - a3)), (SH, s)) := hC
    subst hC
    exact Rn_ret srt238 9 rfl rfl rfl
  rw [if_neg h2] at hJ
  by_cases h3 : a1 = ci 25
  · rw [if_pos h3] at hJ
    refine Rn_ev srt238 1 rfl rfl rfl (op_sw h3 (show _ = some (60, _) from rfl)) ?_
    refine Rn_sq srt238 10 3 (pc' := 63) (ls' := [some (.int a1), some (.int a2), some (.int a3)]) (st' := [(.int (a2 * a3))]) (h1 := (SH, s)) rfl ?_
    rw [← Option.some.inj hJ] at hC
    have hC : r = (some (.int (a2 * a3)), (SH, s)) := hC
    subst hC
    exact Rn_ret srt238 13 rfl rfl rfl
  rw [if_neg h3] at hJ
  by_cases h4 : a1 = ci 26
  · rw [if_pos h4] at hJ
    refine Rn_ev srt238 1 rfl rfl rfl (op_sw h4 (show _ = some (101, _) from rfl)) ?_
    exact Rn_weaken (a := [none, some (.int a2), some (.int a3)]) (b := [some (.int a1), some (.int a2), some (.int a3)]) (And.intro rfl (And.intro rfl trivial)) rfl (k_X12_both_101 d hJ hC)
  rw [if_neg h4] at hJ
  by_cases h5 : a1 = ci 27
  · rw [if_pos h5] at hJ
    refine Rn_ev srt238 1 rfl rfl rfl (op_sw h5 (show _ = some (64, _) from rfl)) ?_
    refine Rn_sq srt238 14 3 (pc' := (if a3 ≤ a2 then 73 else 69)) (ls' := [some (.int a1), some (.int a2), some (.int a3)]) (st' := []) (h1 := (SH, s)) rfl (Rn_if (fun h6 => ?_) (fun h6 => ?_))
    · rw [if_pos h6] at hJ
      refine Rn_sq srt238 19 1 (pc' := 74) (ls' := [some (.int a1), some (.int a2), some (.int a3)]) (st' := [(.int (ci 0))]) (h1 := (SH, s)) rfl ?_
      rw [← Option.some.inj hJ] at hC
      have hC : r = (some (.int (ci 0)), (SH, s)) := hC
      subst hC
      exact Rn_ret srt238 20 rfl rfl rfl
    · rw [if_neg h6] at hJ
      refine Rn_sq srt238 17 2 (pc' := 74) (ls' := [some (.int a1), some (.int a2), some (.int a3)]) (st' := [(.int (ci 1))]) (h1 := (SH, s)) rfl ?_
      rw [← Option.some.inj hJ] at hC
      have hC : r = (some (.int (ci 1)), (SH, s)) := hC
      subst hC
      exact Rn_ret srt238 20 rfl rfl rfl
  rw [if_neg h5] at hJ
  by_cases h7 : a1 = ci 28
  · rw [if_pos h7] at hJ
    refine Rn_ev srt238 1 rfl rfl rfl (op_sw h7 (show _ = some (75, _) from rfl)) ?_
    refine Rn_sq srt238 21 3 (pc' := (if a2 = a3 then 80 else 84)) (ls' := [some (.int a1), some (.int a2), some (.int a3)]) (st' := []) (h1 := (SH, s)) rfl (Rn_if (fun h8 => ?_) (fun h8 => ?_))
    · rw [if_pos h8] at hJ
      refine Rn_sq srt238 24 2 (pc' := 85) (ls' := [some (.int a1), some (.int a2), some (.int a3)]) (st' := [(.int (ci 1))]) (h1 := (SH, s)) rfl ?_
      rw [← Option.some.inj hJ] at hC
      have hC : r = (some (.int (ci 1)), (SH, s)) := hC
      subst hC
      exact Rn_ret srt238 27 rfl rfl rfl
    · rw [if_neg h8] at hJ
      refine Rn_sq srt238 26 1 (pc' := 85) (ls' := [some (.int a1), some (.int a2), some (.int a3)]) (st' := [(.int (ci 0))]) (h1 := (SH, s)) rfl ?_
      rw [← Option.some.inj hJ] at hC
      have hC : r = (some (.int (ci 0)), (SH, s)) := hC
      subst hC
      exact Rn_ret srt238 27 rfl rfl rfl
  rw [if_neg h7] at hJ
  by_cases h9 : a1 = ci 29
  · rw [if_pos h9] at hJ
    refine Rn_ev srt238 1 rfl rfl rfl (op_sw h9 (show _ = some (86, _) from rfl)) ?_
    refine Rn_sq srt238 28 3 (pc' := (if a2 ≤ a3 then 95 else 91)) (ls' := [some (.int a1), some (.int a2), some (.int a3)]) (st' := []) (h1 := (SH, s)) rfl (Rn_if (fun h10 => ?_) (fun h10 => ?_))
    · rw [if_pos h10] at hJ
      refine Rn_sq srt238 33 1 (pc' := 96) (ls' := [some (.int a1), some (.int a2), some (.int a3)]) (st' := [(.int (ci 0))]) (h1 := (SH, s)) rfl ?_
      rw [← Option.some.inj hJ] at hC
      have hC : r = (some (.int (ci 0)), (SH, s)) := hC
      subst hC
      exact Rn_ret srt238 34 rfl rfl rfl
    · rw [if_neg h10] at hJ
      refine Rn_sq srt238 31 2 (pc' := 96) (ls' := [some (.int a1), some (.int a2), some (.int a3)]) (st' := [(.int (ci 1))]) (h1 := (SH, s)) rfl ?_
      rw [← Option.some.inj hJ] at hC
      have hC : r = (some (.int (ci 1)), (SH, s)) := hC
      subst hC
      exact Rn_ret srt238 34 rfl rfl rfl
  rw [if_neg h9] at hJ
  by_cases h11 : a1 = ci 30
  · rw [if_pos h11] at hJ
    refine Rn_ev srt238 1 rfl rfl rfl (op_sw h11 (show _ = some (101, _) from rfl)) ?_
    exact Rn_weaken (a := [none, some (.int a2), some (.int a3)]) (b := [some (.int a1), some (.int a2), some (.int a3)]) (And.intro rfl (And.intro rfl trivial)) rfl (k_X12_both_101 d hJ hC)
  rw [if_neg h11] at hJ
  by_cases h12 : a1 = ci 31
  · rw [if_pos h12] at hJ
    refine Rn_ev srt238 1 rfl rfl rfl (op_sw h12 (show _ = some (97, _) from rfl)) ?_
    refine Rn_sq srt238 35 3 (pc' := 100) (ls' := [some (.int a1), some (.int a2), some (.int a3)]) (st' := [(.int (a2 &&& a3))]) (h1 := (SH, s)) rfl ?_
    rw [← Option.some.inj hJ] at hC
    have hC : r = (some (.int (a2 &&& a3)), (SH, s)) := hC
    subst hC
    exact Rn_ret srt238 38 rfl rfl rfl
  rw [if_neg h12] at hJ
  refine Rn_ev srt238 1 rfl rfl rfl (op_swd (tg := 101) (sw_out (by decide) (by decide) (by intro v hv1 hv2; rcases (show v = 23 ∨ v = 24 ∨ v = 25 ∨ v = 26 ∨ v = 27 ∨ v = 28 ∨ v = 29 ∨ v = 30 ∨ v = 31 by omega) with rfl | rfl | rfl | rfl | rfl | rfl | rfl | rfl | rfl <;> assumption)) rfl) ?_
  exact Rn_weaken (a := [none, some (.int a2), some (.int a3)]) (b := [some (.int a1), some (.int a2), some (.int a3)]) (And.intro rfl (And.intro rfl trivial)) rfl (k_X12_both_101 d hJ hC)
theorem k_X12_both {N : Nat} {xs : Nat → Int32} (d : Nat) {s : mG} {a1 : Int32} {a2 : Int32} {a3 : Int32} {τ : (Int32)} (hJ : F_X12_both s a1 a2 a3 = some τ) : Rn N xs (d + 0) me238 0 [some (.int a1), some (.int a2), some (.int a3)] [] (SH, s) (some (.int τ), (SH, s)) := k_X12_both_r d hJ rfl
/-! IsHeInModel.comesTo(III)I -/
theorem srt239 : m_srt mc239 = true := by decide +kernel
def C_X12_comesTo_6 (N : Nat) (xs : Nat → Int32) (d : Nat) (r : Option Value × mH) (C : (Int32 × mG) → Prop) : ((Int32 × Int32 × Int32 × Int32 × mG) ⊕ (Int32 × mG)) → Prop
  | .inl v => Rn N xs (d + 1) me239 6 [some (.ref 88), some (.int v.1), none, some (.int v.2.1), some (.int v.2.2.1), some (.int v.2.2.2.1), none, none] [] (SH, v.2.2.2.2) r
  | .inr a => C a
def F_X12_comesTo_180 (x1 : Int32) (x3 : Int32) (x4 : Int32) (x5 : Int32) (s : mG) : Option ((Int32 × Int32 × Int32 × Int32 × mG) ⊕ (Int32 × mG)) :=
  some (Sum.inl (x1, x3, x4, (x5 + ci 1), s))
set_option maxRecDepth 4000 in
theorem k_X12_comesTo_180 {N : Nat} {xs : Nat → Int32} (d : Nat) {r : Option Value × mH} {s : mG} {x1 : Int32} {x3 : Int32} {x4 : Int32} {x5 : Int32} {τ : ((Int32 × Int32 × Int32 × Int32 × mG) ⊕ (Int32 × mG))} (hJ : F_X12_comesTo_180 x1 x3 x4 x5 s = some τ) (hC : (C_X12_comesTo_6 N xs d r (fun τ => r = (some (.int τ.1), (SH, τ.2)))) τ) : Rn N xs (d + 1) me239 180 [some (.ref 88), some (.int x1), none, some (.int x3), some (.int x4), some (.int x5), none, none] [] (SH, s) r := by
  unfold F_X12_comesTo_180 at hJ
  refine Rn_sq srt239 103 2 (pc' := 6) (ls' := [some (.ref 88), some (.int x1), none, some (.int x3), some (.int x4), some (.int (x5 + ci 1)), none, none]) (st' := []) (h1 := (SH, s)) rfl ?_
  rw [← Option.some.inj hJ] at hC
  exact hC
def F_X12_comesTo_86 (x1 : Int32) (x3 : Int32) (x4 : Int32) (x5 : Int32) (y1 : Int32) (y2 : Int32) (s : mG) : Option ((Int32 × Int32 × Int32 × Int32 × mG) ⊕ (Int32 × mG)) :=
  if y1 < 0 ∨ 420 ≤ y1.toNatClampNeg then none else
  let s24 : mG := (mu s.1 96 y1.toNatClampNeg y2, s.2)
  F_X12_comesTo_180 x1 x3 (x4 + ci 1) x5 s24
set_option maxRecDepth 4000 in
theorem k_X12_comesTo_86 {N : Nat} {xs : Nat → Int32} (d : Nat) {r : Option Value × mH} {s : mG} {x1 : Int32} {x3 : Int32} {x4 : Int32} {x5 : Int32} {y1 : Int32} {y2 : Int32} {τ : ((Int32 × Int32 × Int32 × Int32 × mG) ⊕ (Int32 × mG))} (hJ : F_X12_comesTo_86 x1 x3 x4 x5 y1 y2 s = some τ) (hC : (C_X12_comesTo_6 N xs d r (fun τ => r = (some (.int τ.1), (SH, τ.2)))) τ) : Rn N xs (d + 1) me239 86 [some (.ref 88), some (.int x1), none, some (.int x3), some (.int x4), some (.int x5), none, none] [(.int y2), (.int y1), (.ref 96)] (SH, s) r := by
  unfold F_X12_comesTo_86 at hJ
  split at hJ
  · cases hJ
  rename_i h23
  extract_lets s24 at hJ
  refine Rn_ev srt239 49 rfl rfl rfl (op_ias sh96 h23 (k := y1.toNatClampNeg) rfl) ?_
  refine Rn_sq srt239 50 2 (pc' := 180) (ls' := [some (.ref 88), some (.int x1), none, some (.int x3), some (.int (x4 + ci 1)), some (.int x5), none, none]) (st' := []) (h1 := (SH, s24)) rfl ?_
  exact (k_X12_comesTo_180 d hJ hC)
def F_X12_comesTo_B6 (x1 : Int32) (x3 : Int32) (x4 : Int32) (x5 : Int32) (s : mG) : Option ((Int32 × Int32 × Int32 × Int32 × mG) ⊕ (Int32 × mG)) :=
  if x3 ≤ x5 then
    some (Sum.inr ((s.1 96 0), s))
  else
    if (((c16 1050) + ((c16 820) * x1)) + ((ci 2) * x5)) < 0 ∨ 1894 ≤ (((c16 1050) + ((c16 820) * x1)) + ((ci 2) * x5)).toNatClampNeg then none else
    let v3 : Int32 := (s.1 89 (((c16 1050) + ((c16 820) * x1)) + ((ci 2) * x5)).toNatClampNeg)
    if ((((c16 1050) + ((c16 820) * x1)) + ((ci 2) * x5)) + (ci 1)) < 0 ∨ 1894 ≤ ((((c16 1050) + ((c16 820) * x1)) + ((ci 2) * x5)) + (ci 1)).toNatClampNeg then none else
    let v5 : Int32 := (s.1 89 ((((c16 1050) + ((c16 820) * x1)) + ((ci 2) * x5)) + (ci 1)).toNatClampNeg)
    if (c8 23) ≤ v3 then
      if v3 = (c8 26) then
        if (x4 - (ci 1)) < 0 ∨ 420 ≤ (x4 - (ci 1)).toNatClampNeg then none else
        if v5 = 0 then none else
        if (x4 - (ci 1)) < 0 ∨ 420 ≤ (x4 - (ci 1)).toNatClampNeg then none else
        let s11 : mG := (mu s.1 96 (x4 - (ci 1)).toNatClampNeg ((s.1 96 (x4 - (ci 1)).toNatClampNeg) / v5), s.2)
        F_X12_comesTo_180 x1 x3 x4 x5 s11
      else
        if v3 = (c8 30) then
          if (x4 - (ci 1)) < 0 ∨ 420 ≤ (x4 - (ci 1)).toNatClampNeg then none else
          if (x4 - (ci 1)) < 0 ∨ 420 ≤ (x4 - (ci 1)).toNatClampNeg then none else
          let s15 : mG := (mu s.1 96 (x4 - (ci 1)).toNatClampNeg ((ci 1) - (s.1 96 (x4 - (ci 1)).toNatClampNeg)), s.2)
          F_X12_comesTo_180 x1 x3 x4 x5 s15
        else
          if ((x4 + ci (-1)) - (ci 1)) < 0 ∨ 420 ≤ ((x4 + ci (-1)) - (ci 1)).toNatClampNeg then none else
          if (x4 + ci (-1)) < 0 ∨ 420 ≤ (x4 + ci (-1)).toNatClampNeg then none else
          match F_X12_both s v3 (s.1 96 ((x4 + ci (-1)) - (ci 1)).toNatClampNeg) (s.1 96 (x4 + ci (-1)).toNatClampNeg) with
          | none => none
          | some v19 =>
          if ((x4 + ci (-1)) - (ci 1)) < 0 ∨ 420 ≤ ((x4 + ci (-1)) - (ci 1)).toNatClampNeg then none else
          let s21 : mG := (mu s.1 96 ((x4 + ci (-1)) - (ci 1)).toNatClampNeg v19, s.2)
          F_X12_comesTo_180 x1 x3 (x4 + ci (-1)) x5 s21
    else
      if v3 = 0 then
        F_X12_comesTo_86 x1 x3 x4 x5 x4 v5 s
      else
        if v3 < 0 ∨ 10 ≤ v3.toNatClampNeg then none else
        F_X12_comesTo_86 x1 x3 x4 x5 x4 (s.1 97 v3.toNatClampNeg) s
set_option maxRecDepth 4000 in
theorem k_X12_comesTo_B6 {N : Nat} {xs : Nat → Int32} (d : Nat) {r : Option Value × mH} {s : mG} {x1 : Int32} {x3 : Int32} {x4 : Int32} {x5 : Int32} {τ : ((Int32 × Int32 × Int32 × Int32 × mG) ⊕ (Int32 × mG))} (hJ : F_X12_comesTo_B6 x1 x3 x4 x5 s = some τ) (hC : (C_X12_comesTo_6 N xs d r (fun τ => r = (some (.int τ.1), (SH, τ.2)))) τ) : Rn N xs (d + 1) me239 6 [some (.ref 88), some (.int x1), none, some (.int x3), some (.int x4), some (.int x5), none, none] [] (SH, s) r := by
  unfold F_X12_comesTo_B6 at hJ
  refine Rn_sq srt239 4 3 (pc' := (if x3 ≤ x5 then 186 else 12)) (ls' := [some (.ref 88), some (.int x1), none, some (.int x3), some (.int x4), some (.int x5), none, none]) (st' := []) (h1 := (SH, s)) rfl (Rn_if (fun h1 => ?_) (fun h1 => ?_))
  · rw [if_pos h1] at hJ
    refine Rn_sq srt239 105 3 (pc' := 191) (ls' := [some (.ref 88), some (.int x1), none, some (.int x3), some (.int x4), some (.int x5), none, none]) (st' := [(.int (ci 0)), (.ref 96)]) (h1 := (SH, s)) rfl ?_
    refine Rn_ev srt239 108 rfl rfl rfl (op_ia sh96 (by decide) (k := 0) rfl) ?_
    rw [← Option.some.inj hJ] at hC
    have hC : r = (some (.int (s.1 96 0)), (SH, s)) := hC
    subst hC
    exact Rn_ret srt239 109 rfl rfl rfl
  · rw [if_neg h1] at hJ
    refine Rn_sq srt239 7 11 (pc' := 30) (ls' := [some (.ref 88), some (.int x1), none, some (.int x3), some (.int x4), some (.int x5), none, none]) (st' := [(.int (((c16 1050) + ((c16 820) * x1)) + ((ci 2) * x5))), (.ref 89)]) (h1 := (SH, s)) rfl ?_
    split at hJ
    · cases hJ
    rename_i h2
    refine Rn_ev srt239 18 rfl rfl rfl (op_ia sh89 h2 (k := (((c16 1050) + ((c16 820) * x1)) + ((ci 2) * x5)).toNatClampNeg) rfl) ?_
    extract_lets v3 at hJ
    refine Rn_sq srt239 19 14 (pc' := 53) (ls' := [some (.ref 88), some (.int x1), none, some (.int x3), some (.int x4), some (.int x5), some (.int v3), none]) (st' := [(.int ((((c16 1050) + ((c16 820) * x1)) + ((ci 2) * x5)) + (ci 1))), (.ref 89)]) (h1 := (SH, s)) rfl ?_
    split at hJ
    · cases hJ
    rename_i h4
    refine Rn_ev srt239 33 rfl rfl rfl (op_ia sh89 h4 (k := ((((c16 1050) + ((c16 820) * x1)) + ((ci 2) * x5)) + (ci 1)).toNatClampNeg) rfl) ?_
    extract_lets v5 at hJ
    refine Rn_sq srt239 34 4 (pc' := (if (c8 23) ≤ v3 then 93 else 63)) (ls' := [some (.ref 88), some (.int x1), none, some (.int x3), some (.int x4), some (.int x5), some (.int v3), some (.int v5)]) (st' := []) (h1 := (SH, s)) rfl (Rn_if (fun h6 => ?_) (fun h6 => ?_))
    · rw [if_pos h6] at hJ
      refine Rn_sq srt239 52 3 (pc' := (if v3 = (c8 26) then 100 else 117)) (ls' := [some (.ref 88), some (.int x1), none, some (.int x3), some (.int x4), some (.int x5), some (.int v3), some (.int v5)]) (st' := []) (h1 := (SH, s)) rfl (Rn_if (fun h7 => ?_) (fun h7 => ?_))
      · rw [if_pos h7] at hJ
        refine Rn_sq srt239 55 6 (pc' := 109) (ls' := [some (.ref 88), some (.int x1), none, some (.int x3), some (.int x4), some (.int x5), some (.int v3), some (.int v5)]) (st' := [(.int (x4 - (ci 1))), (.ref 96), (.int (x4 - (ci 1))), (.ref 96)]) (h1 := (SH, s)) rfl ?_
        split at hJ
        · cases hJ
        rename_i h8
        refine Rn_ev srt239 61 rfl rfl rfl (op_ia sh96 h8 (k := (x4 - (ci 1)).toNatClampNeg) rfl) ?_
        refine Rn_sq srt239 62 1 (pc' := 112) (ls' := [some (.ref 88), some (.int x1), none, some (.int x3), some (.int x4), some (.int x5), some (.int v3), some (.int v5)]) (st' := [(.int v5), (.int (s.1 96 (x4 - (ci 1)).toNatClampNeg)), (.int (x4 - (ci 1))), (.ref 96)]) (h1 := (SH, s)) rfl ?_
        split at hJ
        · cases hJ
        rename_i h9
        refine Rn_ev srt239 63 rfl rfl rfl (op_idiv h9) ?_
        split at hJ
        · cases hJ
        rename_i h10
        extract_lets s11 at hJ
        refine Rn_ev srt239 64 rfl rfl rfl (op_ias sh96 h10 (k := (x4 - (ci 1)).toNatClampNeg) rfl) ?_
        refine Rn_sq srt239 65 1 (pc' := 180) (ls' := [some (.ref 88), some (.int x1), none, some (.int x3), some (.int x4), some (.int x5), some (.int v3), some (.int v5)]) (st' := []) (h1 := (SH, s11)) rfl ?_
        exact Rn_weaken (a := [some (.ref 88), some (.int x1), none, some (.int x3), some (.int x4), some (.int x5), none, none]) (b := [some (.ref 88), some (.int x1), none, some (.int x3), some (.int x4), some (.int x5), some (.int v3), some (.int v5)]) (And.intro rfl (And.intro rfl (And.intro rfl (And.intro rfl (And.intro rfl trivial))))) rfl (k_X12_comesTo_180 d hJ hC)
      · rw [if_neg h7] at hJ
        refine Rn_sq srt239 66 3 (pc' := (if v3 = (c8 30) then 124 else 147)) (ls' := [some (.ref 88), some (.int x1), none, some (.int x3), some (.int x4), some (.int x5), some (.int v3), some (.int v5)]) (st' := []) (h1 := (SH, s)) rfl (Rn_if (fun h12 => ?_) (fun h12 => ?_))
        · rw [if_pos h12] at hJ
          refine Rn_sq srt239 69 11 (pc' := 141) (ls' := [some (.ref 88), some (.int x1), none, some (.int x3), some (.int x4), some (.int x5), some (.int v3), some (.int v5)]) (st' := [(.int (x4 - (ci 1))), (.ref 96), (.int (ci 1)), (.int (x4 - (ci 1))), (.ref 96)]) (h1 := (SH, s)) rfl ?_
          split at hJ
          · cases hJ
          rename_i h13
          refine Rn_ev srt239 80 rfl rfl rfl (op_ia sh96 h13 (k := (x4 - (ci 1)).toNatClampNeg) rfl) ?_
          refine Rn_sq srt239 81 1 (pc' := 143) (ls' := [some (.ref 88), some (.int x1), none, some (.int x3), some (.int x4), some (.int x5), some (.int v3), some (.int v5)]) (st' := [(.int ((ci 1) - (s.1 96 (x4 - (ci 1)).toNatClampNeg))), (.int (x4 - (ci 1))), (.ref 96)]) (h1 := (SH, s)) rfl ?_
          split at hJ
          · cases hJ
          rename_i h14
          extract_lets s15 at hJ
          refine Rn_ev srt239 82 rfl rfl rfl (op_ias sh96 h14 (k := (x4 - (ci 1)).toNatClampNeg) rfl) ?_
          refine Rn_sq srt239 83 1 (pc' := 180) (ls' := [some (.ref 88), some (.int x1), none, some (.int x3), some (.int x4), some (.int x5), some (.int v3), some (.int v5)]) (st' := []) (h1 := (SH, s15)) rfl ?_
          exact Rn_weaken (a := [some (.ref 88), some (.int x1), none, some (.int x3), some (.int x4), some (.int x5), none, none]) (b := [some (.ref 88), some (.int x1), none, some (.int x3), some (.int x4), some (.int x5), some (.int v3), some (.int v5)]) (And.intro rfl (And.intro rfl (And.intro rfl (And.intro rfl (And.intro rfl trivial))))) rfl (k_X12_comesTo_180 d hJ hC)
        · rw [if_neg h12] at hJ
          refine Rn_sq srt239 84 12 (pc' := 168) (ls' := [some (.ref 88), some (.int x1), none, some (.int x3), some (.int (x4 + ci (-1))), some (.int x5), some (.int v3), some (.int v5)]) (st' := [(.int ((x4 + ci (-1)) - (ci 1))), (.ref 96), (.int v3), (.int ((x4 + ci (-1)) - (ci 1))), (.ref 96)]) (h1 := (SH, s)) rfl ?_
          split at hJ
          · cases hJ
          rename_i h16
          refine Rn_ev srt239 96 rfl rfl rfl (op_ia sh96 h16 (k := ((x4 + ci (-1)) - (ci 1)).toNatClampNeg) rfl) ?_
          refine Rn_sq srt239 97 3 (pc' := 175) (ls' := [some (.ref 88), some (.int x1), none, some (.int x3), some (.int (x4 + ci (-1))), some (.int x5), some (.int v3), some (.int v5)]) (st' := [(.int (x4 + ci (-1))), (.ref 96), (.int (s.1 96 ((x4 + ci (-1)) - (ci 1)).toNatClampNeg)), (.int v3), (.int ((x4 + ci (-1)) - (ci 1))), (.ref 96)]) (h1 := (SH, s)) rfl ?_
          split at hJ
          · cases hJ
          rename_i h17
          refine Rn_ev srt239 100 rfl rfl rfl (op_ia sh96 h17 (k := (x4 + ci (-1)).toNatClampNeg) rfl) ?_
          split at hJ
          · cases hJ
          rename_i v19 h18
          refine Rn_call srt239 101 rfl rfl rfl ⟨Nat.le_of_ble_eq_true rfl, Nat.le_of_ble_eq_true rfl, rfl, Nat.le_of_ble_eq_true rfl⟩ (k_X12_both (d) h18) (show Rn N xs (d + 1) me239 179 [some (.ref 88), some (.int x1), none, some (.int x3), some (.int (x4 + ci (-1))), some (.int x5), some (.int v3), some (.int v5)] [(.int v19), (.int ((x4 + ci (-1)) - (ci 1))), (.ref 96)] (SH, s) r from ?_)
          split at hJ
          · cases hJ
          rename_i h20
          extract_lets s21 at hJ
          refine Rn_ev srt239 102 rfl rfl rfl (op_ias sh96 h20 (k := ((x4 + ci (-1)) - (ci 1)).toNatClampNeg) rfl) ?_
          exact Rn_weaken (a := [some (.ref 88), some (.int x1), none, some (.int x3), some (.int (x4 + ci (-1))), some (.int x5), none, none]) (b := [some (.ref 88), some (.int x1), none, some (.int x3), some (.int (x4 + ci (-1))), some (.int x5), some (.int v3), some (.int v5)]) (And.intro rfl (And.intro rfl (And.intro rfl (And.intro rfl (And.intro rfl trivial))))) rfl (k_X12_comesTo_180 d hJ hC)
    · rw [if_neg h6] at hJ
      refine Rn_sq srt239 38 5 (pc' := (if v3 = 0 then 74 else 79)) (ls' := [some (.ref 88), some (.int x1), none, some (.int x3), some (.int x4), some (.int x5), some (.int v3), some (.int v5)]) (st' := [(.int x4), (.ref 96)]) (h1 := (SH, s)) rfl (Rn_if (fun h22 => ?_) (fun h22 => ?_))
      · rw [if_pos h22] at hJ
        refine Rn_sq srt239 43 2 (pc' := 86) (ls' := [some (.ref 88), some (.int x1), none, some (.int x3), some (.int x4), some (.int x5), some (.int v3), some (.int v5)]) (st' := [(.int v5), (.int x4), (.ref 96)]) (h1 := (SH, s)) rfl ?_
        exact Rn_weaken (a := [some (.ref 88), some (.int x1), none, some (.int x3), some (.int x4), some (.int x5), none, none]) (b := [some (.ref 88), some (.int x1), none, some (.int x3), some (.int x4), some (.int x5), some (.int v3), some (.int v5)]) (And.intro rfl (And.intro rfl (And.intro rfl (And.intro rfl (And.intro rfl trivial))))) rfl (k_X12_comesTo_86 d hJ hC)
      · rw [if_neg h22] at hJ
        refine Rn_sq srt239 45 3 (pc' := 85) (ls' := [some (.ref 88), some (.int x1), none, some (.int x3), some (.int x4), some (.int x5), some (.int v3), some (.int v5)]) (st' := [(.int v3), (.ref 97), (.int x4), (.ref 96)]) (h1 := (SH, s)) rfl ?_
        split at hJ
        · cases hJ
        rename_i h25
        refine Rn_ev srt239 48 rfl rfl rfl (op_ia sh97 h25 (k := v3.toNatClampNeg) rfl) ?_
        exact Rn_weaken (a := [some (.ref 88), some (.int x1), none, some (.int x3), some (.int x4), some (.int x5), none, none]) (b := [some (.ref 88), some (.int x1), none, some (.int x3), some (.int x4), some (.int x5), some (.int v3), some (.int v5)]) (And.intro rfl (And.intro rfl (And.intro rfl (And.intro rfl (And.intro rfl trivial))))) rfl (k_X12_comesTo_86 d hJ hC)
def F_X12_comesTo_L6 (x1 : Int32) (x3 : Int32) (x4 : Int32) (x5 : Int32) (s : mG) : Option (Int32 × mG) := whl (fun (v : (Int32 × Int32 × Int32 × Int32 × mG)) => F_X12_comesTo_B6 v.1 v.2.1 v.2.2.1 v.2.2.2.1 v.2.2.2.2) (x1, x3, x4, x5, s)
theorem k_X12_comesTo_L6 {N : Nat} {xs : Nat → Int32} (d : Nat) {r : Option Value × mH} {s : mG} {x1 : Int32} {x3 : Int32} {x4 : Int32} {x5 : Int32} {τ : (Int32 × mG)} (hJ : F_X12_comesTo_L6 x1 x3 x4 x5 s = some τ) (hC : (fun τ => r = (some (.int τ.1), (SH, τ.2))) τ) : Rn N xs (d + 1) me239 6 [some (.ref 88), some (.int x1), none, some (.int x3), some (.int x4), some (.int x5), none, none] [] (SH, s) r :=
  whl_link (P := fun (v : (Int32 × Int32 × Int32 × Int32 × mG)) => Rn N xs (d + 1) me239 6 [some (.ref 88), some (.int v.1), none, some (.int v.2.1), some (.int v.2.2.1), some (.int v.2.2.2.1), none, none] [] (SH, v.2.2.2.2) r) (C := (C_X12_comesTo_6 N xs d r (fun τ => r = (some (.int τ.1), (SH, τ.2))))) (fun v τ h1 h2 => k_X12_comesTo_B6 d h1 h2) (fun _ h => h) (fun _ h => h) _ _ hJ hC
def F_X12_comesTo (a1 : Int32) (a2 : Int32) (a3 : Int32) (s : mG) : Option (Int32 × mG) :=
  F_X12_comesTo_L6 a1 a3 (ci 0) a2 s
set_option maxRecDepth 4000 in
theorem k_X12_comesTo_r {N : Nat} {xs : Nat → Int32} (d : Nat) {r : Option Value × mH} {s : mG} {a1 : Int32} {a2 : Int32} {a3 : Int32} {τ : (Int32 × mG)} (hJ : F_X12_comesTo a1 a2 a3 s = some τ) (hC : (fun τ => r = (some (.int τ.1), (SH, τ.2))) τ) : Rn N xs (d + 1) me239 0 [some (.ref 88), some (.int a1), some (.int a2), some (.int a3), none, none, none, none] [] (SH, s) r := by
  unfold F_X12_comesTo at hJ
  refine Rn_sq srt239 0 4 (pc' := 6) (ls' := [some (.ref 88), some (.int a1), some (.int a2), some (.int a3), some (.int (ci 0)), some (.int a2), none, none]) (st' := []) (h1 := (SH, s)) rfl ?_
  exact Rn_weaken (a := [some (.ref 88), some (.int a1), none, some (.int a3), some (.int (ci 0)), some (.int a2), none, none]) (b := [some (.ref 88), some (.int a1), some (.int a2), some (.int a3), some (.int (ci 0)), some (.int a2), none, none]) (And.intro rfl (And.intro rfl (And.intro rfl (And.intro rfl (And.intro rfl trivial))))) rfl (k_X12_comesTo_L6 d hJ hC)
theorem k_X12_comesTo {N : Nat} {xs : Nat → Int32} (d : Nat) {s : mG} {a1 : Int32} {a2 : Int32} {a3 : Int32} {τ : (Int32 × mG)} (hJ : F_X12_comesTo a1 a2 a3 s = some τ) : Rn N xs (d + 1) me239 0 [some (.ref 88), some (.int a1), some (.int a2), some (.int a3), none, none, none, none] [] (SH, s) (some (.int τ.1), (SH, τ.2)) := k_X12_comesTo_r d hJ rfl
/-! IsHeInModel.isSo(I)Z -/
theorem srt240 : m_srt mc240 = true := by decide +kernel
def F_X12_isSo_52 (s : mG) : Option (Int32 × mG) :=
  some ((ci 1), s)
set_option maxRecDepth 4000 in
theorem k_X12_isSo_52 {N : Nat} {xs : Nat → Int32} (d : Nat) {r : Option Value × mH} {s : mG} {τ : (Int32 × mG)} (hJ : F_X12_isSo_52 s = some τ) (hC : (fun τ => r = (some (.int τ.1), (SH, τ.2))) τ) : Rn N xs (d + 2) me240 52 [none, none] [] (SH, s) r := by
  unfold F_X12_isSo_52 at hJ
  refine Rn_sq srt240 30 2 (pc' := 57) (ls' := [none, none]) (st' := [(.int (ci 1))]) (h1 := (SH, s)) rfl ?_
  rw [← Option.some.inj hJ] at hC
  have hC : r = (some (.int (ci 1)), (SH, s)) := hC
  subst hC
  exact Rn_ret srt240 33 rfl rfl (if_pos (by decide))
def F_X12_isSo (a1 : Int32) (s : mG) : Option (Int32 × mG) :=
  if ((c16 1017) + a1) < 0 ∨ 1894 ≤ ((c16 1017) + a1).toNatClampNeg then none else
  if ((c16 1001) + a1) < 0 ∨ 1894 ≤ ((c16 1001) + a1).toNatClampNeg then none else
  if (s.1 89 ((c16 1017) + a1).toNatClampNeg) = (s.1 89 ((c16 1001) + a1).toNatClampNeg) then
    F_X12_isSo_52 s
  else
    if ((c16 1001) + a1) < 0 ∨ 1894 ≤ ((c16 1001) + a1).toNatClampNeg then none else
    if ((c16 1017) + a1) < 0 ∨ 1894 ≤ ((c16 1017) + a1).toNatClampNeg then none else
    match F_X12_comesTo (ci 0) (s.1 89 ((c16 1001) + a1).toNatClampNeg) (s.1 89 ((c16 1017) + a1).toNatClampNeg) s with
    | none => none
    | some (v8, s7) =>
    if v8 = (ci 1) then
      F_X12_isSo_52 s7
    else
      some ((ci 0), s7)
set_option maxRecDepth 4000 in
theorem k_X12_isSo_r {N : Nat} {xs : Nat → Int32} (d : Nat) {r : Option Value × mH} {s : mG} {a1 : Int32} {τ : (Int32 × mG)} (hJ : F_X12_isSo a1 s = some τ) (hC : (fun τ => r = (some (.int τ.1), (SH, τ.2))) τ) : Rn N xs (d + 2) me240 0 [some (.ref 88), some (.int a1)] [] (SH, s) r := by
  unfold F_X12_isSo at hJ
  refine Rn_sq srt240 0 5 (pc' := 9) (ls' := [some (.ref 88), some (.int a1)]) (st' := [(.int ((c16 1017) + a1)), (.ref 89)]) (h1 := (SH, s)) rfl ?_
  split at hJ
  · cases hJ
  rename_i h1
  refine Rn_ev srt240 5 rfl rfl rfl (op_ia sh89 h1 (k := ((c16 1017) + a1).toNatClampNeg) rfl) ?_
  refine Rn_sq srt240 6 5 (pc' := 19) (ls' := [some (.ref 88), some (.int a1)]) (st' := [(.int ((c16 1001) + a1)), (.ref 89), (.int (s.1 89 ((c16 1017) + a1).toNatClampNeg))]) (h1 := (SH, s)) rfl ?_
  split at hJ
  · cases hJ
  rename_i h2
  refine Rn_ev srt240 11 rfl rfl rfl (op_ia sh89 h2 (k := ((c16 1001) + a1).toNatClampNeg) rfl) ?_
  refine Rn_sq srt240 12 1 (pc' := (if (s.1 89 ((c16 1017) + a1).toNatClampNeg) = (s.1 89 ((c16 1001) + a1).toNatClampNeg) then 52 else 23)) (ls' := [some (.ref 88), some (.int a1)]) (st' := []) (h1 := (SH, s)) rfl (Rn_if (fun h3 => ?_) (fun h3 => ?_))
  · rw [if_pos h3] at hJ
    exact Rn_weaken (a := [none, none]) (b := [some (.ref 88), some (.int a1)]) trivial rfl (k_X12_isSo_52 d hJ hC)
  · rw [if_neg h3] at hJ
    refine Rn_sq srt240 13 7 (pc' := 34) (ls' := [some (.ref 88), some (.int a1)]) (st' := [(.int ((c16 1001) + a1)), (.ref 89), (.int (ci 0)), (.ref 88)]) (h1 := (SH, s)) rfl ?_
    split at hJ
    · cases hJ
    rename_i h4
    refine Rn_ev srt240 20 rfl rfl rfl (op_ia sh89 h4 (k := ((c16 1001) + a1).toNatClampNeg) rfl) ?_
    refine Rn_sq srt240 21 5 (pc' := 44) (ls' := [some (.ref 88), some (.int a1)]) (st' := [(.int ((c16 1017) + a1)), (.ref 89), (.int (s.1 89 ((c16 1001) + a1).toNatClampNeg)), (.int (ci 0)), (.ref 88)]) (h1 := (SH, s)) rfl ?_
    split at hJ
    · cases hJ
    rename_i h5
    refine Rn_ev srt240 26 rfl rfl rfl (op_ia sh89 h5 (k := ((c16 1017) + a1).toNatClampNeg) rfl) ?_
    split at hJ
    · cases hJ
    rename_i v8 s7 h6
    refine Rn_call srt240 27 rfl rfl rfl ⟨Nat.le_of_ble_eq_true rfl, Nat.le_of_ble_eq_true rfl, rfl, Nat.le_of_ble_eq_true rfl⟩ (k_X12_comesTo (d) h6) (show Rn N xs (d + 2) me240 48 [some (.ref 88), some (.int a1)] [(.int v8)] (SH, s7) r from ?_)
    refine Rn_sq srt240 28 2 (pc' := (if v8 = (ci 1) then 52 else 56)) (ls' := [some (.ref 88), some (.int a1)]) (st' := []) (h1 := (SH, s7)) rfl (Rn_if (fun h9 => ?_) (fun h9 => ?_))
    · rw [if_pos h9] at hJ
      exact Rn_weaken (a := [none, none]) (b := [some (.ref 88), some (.int a1)]) trivial rfl (k_X12_isSo_52 d hJ hC)
    · rw [if_neg h9] at hJ
      refine Rn_sq srt240 32 1 (pc' := 57) (ls' := [some (.ref 88), some (.int a1)]) (st' := [(.int (ci 0))]) (h1 := (SH, s7)) rfl ?_
      rw [← Option.some.inj hJ] at hC
      have hC : r = (some (.int (ci 0)), (SH, s7)) := hC
      subst hC
      exact Rn_ret srt240 33 rfl rfl (if_pos (by decide))
theorem k_X12_isSo {N : Nat} {xs : Nat → Int32} (d : Nat) {s : mG} {a1 : Int32} {τ : (Int32 × mG)} (hJ : F_X12_isSo a1 s = some τ) : Rn N xs (d + 2) me240 0 [some (.ref 88), some (.int a1)] [] (SH, s) (some (.int τ.1), (SH, τ.2)) := k_X12_isSo_r d hJ rfl
/-! IsHeInModel.isOnBoard(I)Z -/
theorem srt241 : m_srt mc241 = true := by decide +kernel
def F_X12_isOnBoard (s : mG) (a1 : Int32) : Option (Int32) :=
  if ((c8 15) + a1) < 0 ∨ 1894 ≤ ((c8 15) + a1).toNatClampNeg then none else
  if (s.1 89 ((c8 15) + a1).toNatClampNeg) = (ci (-1)) then
    some (ci 0)
  else
    some (ci 1)
set_option maxRecDepth 4000 in
theorem k_X12_isOnBoard_r {N : Nat} {xs : Nat → Int32} (d : Nat) {r : Option Value × mH} {s : mG} {a1 : Int32} {τ : (Int32)} (hJ : F_X12_isOnBoard s a1 = some τ) (hC : (fun τ => r = (some (.int τ), (SH, s))) τ) : Rn N xs (d + 0) me241 0 [some (.ref 88), some (.int a1)] [] (SH, s) r := by
  unfold F_X12_isOnBoard at hJ
  refine Rn_sq srt241 0 5 (pc' := 8) (ls' := [some (.ref 88), some (.int a1)]) (st' := [(.int ((c8 15) + a1)), (.ref 89)]) (h1 := (SH, s)) rfl ?_
  split at hJ
  · cases hJ
  rename_i h1
  refine Rn_ev srt241 5 rfl rfl rfl (op_ia sh89 h1 (k := ((c8 15) + a1).toNatClampNeg) rfl) ?_
  refine Rn_sq srt241 6 2 (pc' := (if (s.1 89 ((c8 15) + a1).toNatClampNeg) = (ci (-1)) then 17 else 13)) (ls' := [some (.ref 88), some (.int a1)]) (st' := []) (h1 := (SH, s)) rfl (Rn_if (fun h2 => ?_) (fun h2 => ?_))
  · rw [if_pos h2] at hJ
    refine Rn_sq srt241 10 1 (pc' := 18) (ls' := [some (.ref 88), some (.int a1)]) (st' := [(.int (ci 0))]) (h1 := (SH, s)) rfl ?_
    rw [← Option.some.inj hJ] at hC
    have hC : r = (some (.int (ci 0)), (SH, s)) := hC
    subst hC
    exact Rn_ret srt241 11 rfl rfl (if_pos (by decide))
  · rw [if_neg h2] at hJ
    refine Rn_sq srt241 8 2 (pc' := 18) (ls' := [some (.ref 88), some (.int a1)]) (st' := [(.int (ci 1))]) (h1 := (SH, s)) rfl ?_
    rw [← Option.some.inj hJ] at hC
    have hC : r = (some (.int (ci 1)), (SH, s)) := hC
    subst hC
    exact Rn_ret srt241 11 rfl rfl (if_pos (by decide))
theorem k_X12_isOnBoard {N : Nat} {xs : Nat → Int32} (d : Nat) {s : mG} {a1 : Int32} {τ : (Int32)} (hJ : F_X12_isOnBoard s a1 = some τ) : Rn N xs (d + 0) me241 0 [some (.ref 88), some (.int a1)] [] (SH, s) (some (.int τ), (SH, s)) := k_X12_isOnBoard_r d hJ rfl
/-! IsHeInModel.without(II)I -/
theorem srt242 : m_srt mc242 = true := by decide +kernel
def F_X12_without (s : mG) (a1 : Int32) (a2 : Int32) : Option (Int32) :=
  if a1 = ci 20 then
    some (c8 100)
  else
  if a1 = ci 21 then
    some (c16 200)
  else
  if a1 = ci 22 then
    some (c16 300)
  else
  if a1 = ci 23 then
    some (ci 0)
  else
  if a1 = ci 24 then
    some (c16 500)
  else
  match F_X12_isOnBoard s a2 with
  | none => none
  | some v7 =>
  if v7 = 0 then
    some (c16 900)
  else
    some (c8 100)
set_option maxRecDepth 4000 in
theorem k_X12_without_r {N : Nat} {xs : Nat → Int32} (d : Nat) {r : Option Value × mH} {s : mG} {a1 : Int32} {a2 : Int32} {τ : (Int32)} (hJ : F_X12_without s a1 a2 = some τ) (hC : (fun τ => r = (some (.int τ), (SH, s))) τ) : Rn N xs (d + 1) me242 0 [some (.ref 88), some (.int a1), some (.int a2)] [] (SH, s) r := by
  unfold F_X12_without at hJ
  refine Rn_sq srt242 0 1 (pc' := 1) (ls' := [some (.ref 88), some (.int a1), some (.int a2)]) (st' := [(.int a1)]) (h1 := (SH, s)) rfl ?_
  by_cases h1 : a1 = ci 20
  · rw [if_pos h1] at hJ
    refine Rn_ev srt242 1 rfl rfl rfl (op_sw h1 (show _ = some (36, _) from rfl)) ?_
    refine Rn_sq srt242 2 1 (pc' := 38) (ls' := [some (.ref 88), some (.int a1), some (.int a2)]) (st' := [(.int (c8 100))]) (h1 := (SH, s)) rfl ?_
    rw [← Option.some.inj hJ] at hC
    have hC : r = (some (.int (c8 100)), (SH, s)) := hC
    subst hC
    exact Rn_ret srt242 3 rfl rfl rfl
  rw [if_neg h1] at hJ
  by_cases h2 : a1 = ci 21
  · rw [if_pos h2] at hJ
    refine Rn_ev srt242 1 rfl rfl rfl (op_sw h2 (show _ = some (39, _) from rfl)) ?_
    refine Rn_sq srt242 4 1 (pc' := 42) (ls' := [some (.ref 88), some (.int a1), some (.int a2)]) (st' := [(.int (c16 200))]) (h1 := (SH, s)) rfl ?_
    rw [← Option.some.inj hJ] at hC
    have hC : r = (some (.int (c16 200)), (SH, s)) := hC
    subst hC
    exact Rn_ret srt242 5 rfl rfl rfl
  rw [if_neg h2] at hJ
  by_cases h3 : a1 = ci 22
  · rw [if_pos h3] at hJ
    refine Rn_ev srt242 1 rfl rfl rfl (op_sw h3 (show _ = some (43, _) from rfl)) ?_
    refine Rn_sq srt242 6 1 (pc' := 46) (ls' := [some (.ref 88), some (.int a1), some (.int a2)]) (st' := [(.int (c16 300))]) (h1 := (SH, s)) rfl ?_
    rw [← Option.some.inj hJ] at hC
    have hC : r = (some (.int (c16 300)), (SH, s)) := hC
    subst hC
    exact Rn_ret srt242 7 rfl rfl rfl
  rw [if_neg h3] at hJ
  by_cases h4 : a1 = ci 23
  · rw [if_pos h4] at hJ
    refine Rn_ev srt242 1 rfl rfl rfl (op_sw h4 (show _ = some (47, _) from rfl)) ?_
    refine Rn_sq srt242 8 1 (pc' := 48) (ls' := [some (.ref 88), some (.int a1), some (.int a2)]) (st' := [(.int (ci 0))]) (h1 := (SH, s)) rfl ?_
    rw [← Option.some.inj hJ] at hC
    have hC : r = (some (.int (ci 0)), (SH, s)) := hC
    subst hC
    exact Rn_ret srt242 9 rfl rfl rfl
  rw [if_neg h4] at hJ
  by_cases h5 : a1 = ci 24
  · rw [if_pos h5] at hJ
    refine Rn_ev srt242 1 rfl rfl rfl (op_sw h5 (show _ = some (49, _) from rfl)) ?_
    refine Rn_sq srt242 10 1 (pc' := 52) (ls' := [some (.ref 88), some (.int a1), some (.int a2)]) (st' := [(.int (c16 500))]) (h1 := (SH, s)) rfl ?_
    rw [← Option.some.inj hJ] at hC
    have hC : r = (some (.int (c16 500)), (SH, s)) := hC
    subst hC
    exact Rn_ret srt242 11 rfl rfl rfl
  rw [if_neg h5] at hJ
  refine Rn_ev srt242 1 rfl rfl rfl (op_swd (tg := 53) (sw_out (by decide) (by decide) (by intro v hv1 hv2; rcases (show v = 20 ∨ v = 21 ∨ v = 22 ∨ v = 23 ∨ v = 24 by omega) with rfl | rfl | rfl | rfl | rfl <;> assumption)) rfl) ?_
  refine Rn_sq srt242 12 2 (pc' := 55) (ls' := [some (.ref 88), some (.int a1), some (.int a2)]) (st' := [(.int a2), (.ref 88)]) (h1 := (SH, s)) rfl ?_
  split at hJ
  · cases hJ
  rename_i v7 h6
  refine Rn_call srt242 14 rfl rfl rfl ⟨Nat.le_of_ble_eq_true rfl, Nat.le_of_ble_eq_true rfl, rfl, Nat.le_of_ble_eq_true rfl⟩ (k_X12_isOnBoard (d) h6) (show Rn N xs (d + 1) me242 58 [some (.ref 88), some (.int a1), some (.int a2)] [(.int v7)] (SH, s) r from ?_)
  refine Rn_sq srt242 15 1 (pc' := (if v7 = 0 then 66 else 61)) (ls' := [some (.ref 88), some (.int a1), some (.int a2)]) (st' := []) (h1 := (SH, s)) rfl (Rn_if (fun h8 => ?_) (fun h8 => ?_))
  · rw [if_pos h8] at hJ
    refine Rn_sq srt242 18 1 (pc' := 69) (ls' := [some (.ref 88), some (.int a1), some (.int a2)]) (st' := [(.int (c16 900))]) (h1 := (SH, s)) rfl ?_
    rw [← Option.some.inj hJ] at hC
    have hC : r = (some (.int (c16 900)), (SH, s)) := hC
    subst hC
    exact Rn_ret srt242 19 rfl rfl rfl
  · rw [if_neg h8] at hJ
    refine Rn_sq srt242 16 2 (pc' := 69) (ls' := [some (.ref 88), some (.int a1), some (.int a2)]) (st' := [(.int (c8 100))]) (h1 := (SH, s)) rfl ?_
    rw [← Option.some.inj hJ] at hC
    have hC : r = (some (.int (c8 100)), (SH, s)) := hC
    subst hC
    exact Rn_ret srt242 19 rfl rfl rfl
theorem k_X12_without {N : Nat} {xs : Nat → Int32} (d : Nat) {s : mG} {a1 : Int32} {a2 : Int32} {τ : (Int32)} (hJ : F_X12_without s a1 a2 = some τ) : Rn N xs (d + 1) me242 0 [some (.ref 88), some (.int a1), some (.int a2)] [] (SH, s) (some (.int τ), (SH, s)) := k_X12_without_r d hJ rfl
/-! IsHeInModel.saysIn(IIIII)I -/
theorem srt243 : m_srt mc243 = true := by decide +kernel
def C_X12_saysIn_113 (N : Nat) (xs : Nat → Int32) (d : Nat) (r : Option Value × mH) (C : (Int32 × mG) → Prop) : ((Int32 × Int32 × Int32 × mG) ⊕ (Int32 × mG)) → Prop
  | .inl v => Rn N xs (d + 3) me243 113 [some (.ref 88), some (.int v.1), some (.int v.2.1), none, none, none, some (.int v.2.2.1)] [] (SH, v.2.2.2) r
  | .inr a => C a
def F_X12_saysIn_187 (x1 : Int32) (x2 : Int32) (x6 : Int32) (s : mG) : Option ((Int32 × Int32 × Int32 × mG) ⊕ (Int32 × mG)) :=
  some (Sum.inl (x1, x2, (x6 + ci 1), s))
set_option maxRecDepth 4000 in
theorem k_X12_saysIn_187 {N : Nat} {xs : Nat → Int32} (d : Nat) {r : Option Value × mH} {s : mG} {x1 : Int32} {x2 : Int32} {x6 : Int32} {τ : ((Int32 × Int32 × Int32 × mG) ⊕ (Int32 × mG))} (hJ : F_X12_saysIn_187 x1 x2 x6 s = some τ) (hC : (C_X12_saysIn_113 N xs d r (fun τ => r = (some (.int τ.1), (SH, τ.2)))) τ) : Rn N xs (d + 3) me243 187 [some (.ref 88), some (.int x1), some (.int x2), none, none, none, some (.int x6)] [] (SH, s) r := by
  unfold F_X12_saysIn_187 at hJ
  refine Rn_sq srt243 108 2 (pc' := 113) (ls' := [some (.ref 88), some (.int x1), some (.int x2), none, none, none, some (.int (x6 + ci 1))]) (st' := []) (h1 := (SH, s)) rfl ?_
  rw [← Option.some.inj hJ] at hC
  exact hC
def F_X12_saysIn_B113 (x1 : Int32) (x2 : Int32) (x6 : Int32) (s : mG) : Option ((Int32 × Int32 × Int32 × mG) ⊕ (Int32 × mG)) :=
  if (s.1 89 117) ≤ x6 then
    match F_X12_without s x1 x2 with
    | none => none
    | some v18 =>
    some (Sum.inr (v18, s))
  else
    if ((c16 1033) + x6) < 0 ∨ 1894 ≤ ((c16 1033) + x6).toNatClampNeg then none else
    if (s.1 89 ((c16 1033) + x6).toNatClampNeg) = x1 then
      match F_X12_isSo x6 s with
      | none => none
      | some (v23, s22) =>
      if v23 = 0 then
        F_X12_saysIn_187 x1 x2 x6 s22
      else
        if ((c16 985) + x6) < 0 ∨ 1894 ≤ ((c16 985) + x6).toNatClampNeg then none else
        if ((c16 1001) + x6) < 0 ∨ 1894 ≤ ((c16 1001) + x6).toNatClampNeg then none else
        match F_X12_comesTo (ci 0) (s22.1 89 ((c16 985) + x6).toNatClampNeg) (s22.1 89 ((c16 1001) + x6).toNatClampNeg) s22 with
        | none => none
        | some (v29, s28) =>
        match F_X12_lesser s28 (c16 1000) v29 with
        | none => none
        | some v31 =>
        match F_X12_greater s28 (ci 0) v31 with
        | none => none
        | some v33 =>
        some (Sum.inr (v33, s28))
    else
      F_X12_saysIn_187 x1 x2 x6 s
set_option maxRecDepth 4000 in
theorem k_X12_saysIn_B113 {N : Nat} {xs : Nat → Int32} (d : Nat) {r : Option Value × mH} {s : mG} {x1 : Int32} {x2 : Int32} {x6 : Int32} {τ : ((Int32 × Int32 × Int32 × mG) ⊕ (Int32 × mG))} (hJ : F_X12_saysIn_B113 x1 x2 x6 s = some τ) (hC : (C_X12_saysIn_113 N xs d r (fun τ => r = (some (.int τ.1), (SH, τ.2)))) τ) : Rn N xs (d + 3) me243 113 [some (.ref 88), some (.int x1), some (.int x2), none, none, none, some (.int x6)] [] (SH, s) r := by
  unfold F_X12_saysIn_B113 at hJ
  refine Rn_sq srt243 70 4 (pc' := 121) (ls' := [some (.ref 88), some (.int x1), some (.int x2), none, none, none, some (.int x6)]) (st' := [(.int (c8 117)), (.ref 89), (.int x6)]) (h1 := (SH, s)) rfl ?_
  refine Rn_ev srt243 74 rfl rfl rfl (op_ia sh89 (by decide) (k := 117) rfl) ?_
  refine Rn_sq srt243 75 1 (pc' := (if (s.1 89 117) ≤ x6 then 193 else 125)) (ls' := [some (.ref 88), some (.int x1), some (.int x2), none, none, none, some (.int x6)]) (st' := []) (h1 := (SH, s)) rfl (Rn_if (fun h16 => ?_) (fun h16 => ?_))
  · rw [if_pos h16] at hJ
    refine Rn_sq srt243 110 3 (pc' := 196) (ls' := [some (.ref 88), some (.int x1), some (.int x2), none, none, none, some (.int x6)]) (st' := [(.int x2), (.int x1), (.ref 88)]) (h1 := (SH, s)) rfl ?_
    split at hJ
    · cases hJ
    rename_i v18 h17
    refine Rn_call srt243 113 rfl rfl rfl ⟨Nat.le_of_ble_eq_true rfl, Nat.le_of_ble_eq_true rfl, rfl, Nat.le_of_ble_eq_true rfl⟩ (k_X12_without (d + 1) h17) (show Rn N xs (d + 3) me243 199 [some (.ref 88), some (.int x1), some (.int x2), none, none, none, some (.int x6)] [(.int v18)] (SH, s) r from ?_)
    rw [← Option.some.inj hJ] at hC
    have hC : r = (some (.int v18), (SH, s)) := hC
    subst hC
    exact Rn_ret srt243 114 rfl rfl rfl
  · rw [if_neg h16] at hJ
    refine Rn_sq srt243 76 5 (pc' := 135) (ls' := [some (.ref 88), some (.int x1), some (.int x2), none, none, none, some (.int x6)]) (st' := [(.int ((c16 1033) + x6)), (.ref 89)]) (h1 := (SH, s)) rfl ?_
    split at hJ
    · cases hJ
    rename_i h19
    refine Rn_ev srt243 81 rfl rfl rfl (op_ia sh89 h19 (k := ((c16 1033) + x6).toNatClampNeg) rfl) ?_
    refine Rn_sq srt243 82 2 (pc' := (if (s.1 89 ((c16 1033) + x6).toNatClampNeg) = x1 then 140 else 187)) (ls' := [some (.ref 88), some (.int x1), some (.int x2), none, none, none, some (.int x6)]) (st' := []) (h1 := (SH, s)) rfl (Rn_if (fun h20 => ?_) (fun h20 => ?_))
    · rw [if_pos h20] at hJ
      refine Rn_sq srt243 84 2 (pc' := 143) (ls' := [some (.ref 88), some (.int x1), some (.int x2), none, none, none, some (.int x6)]) (st' := [(.int x6), (.ref 88)]) (h1 := (SH, s)) rfl ?_
      split at hJ
      · cases hJ
      rename_i v23 s22 h21
      refine Rn_call srt243 86 rfl rfl rfl ⟨Nat.le_of_ble_eq_true rfl, Nat.le_of_ble_eq_true rfl, rfl, Nat.le_of_ble_eq_true rfl⟩ (k_X12_isSo (d) h21) (show Rn N xs (d + 3) me243 146 [some (.ref 88), some (.int x1), some (.int x2), none, none, none, some (.int x6)] [(.int v23)] (SH, s22) r from ?_)
      refine Rn_sq srt243 87 1 (pc' := (if v23 = 0 then 187 else 149)) (ls' := [some (.ref 88), some (.int x1), some (.int x2), none, none, none, some (.int x6)]) (st' := []) (h1 := (SH, s22)) rfl (Rn_if (fun h24 => ?_) (fun h24 => ?_))
      · rw [if_pos h24] at hJ
        exact (k_X12_saysIn_187 d hJ hC)
      · rw [if_neg h24] at hJ
        refine Rn_sq srt243 88 9 (pc' := 165) (ls' := [some (.ref 88), some (.int x1), some (.int x2), none, none, none, some (.int x6)]) (st' := [(.int ((c16 985) + x6)), (.ref 89), (.int (ci 0)), (.ref 88), (.int (c16 1000)), (.int (ci 0))]) (h1 := (SH, s22)) rfl ?_
        split at hJ
        · cases hJ
        rename_i h25
        refine Rn_ev srt243 97 rfl rfl rfl (op_ia sh89 h25 (k := ((c16 985) + x6).toNatClampNeg) rfl) ?_
        refine Rn_sq srt243 98 5 (pc' := 176) (ls' := [some (.ref 88), some (.int x1), some (.int x2), none, none, none, some (.int x6)]) (st' := [(.int ((c16 1001) + x6)), (.ref 89), (.int (s22.1 89 ((c16 985) + x6).toNatClampNeg)), (.int (ci 0)), (.ref 88), (.int (c16 1000)), (.int (ci 0))]) (h1 := (SH, s22)) rfl ?_
        split at hJ
        · cases hJ
        rename_i h26
        refine Rn_ev srt243 103 rfl rfl rfl (op_ia sh89 h26 (k := ((c16 1001) + x6).toNatClampNeg) rfl) ?_
        split at hJ
        · cases hJ
        rename_i v29 s28 h27
        refine Rn_call srt243 104 rfl rfl rfl ⟨Nat.le_of_ble_eq_true rfl, Nat.le_of_ble_eq_true rfl, rfl, Nat.le_of_ble_eq_true rfl⟩ (k_X12_comesTo (d + 1) h27) (show Rn N xs (d + 3) me243 180 [some (.ref 88), some (.int x1), some (.int x2), none, none, none, some (.int x6)] [(.int v29), (.int (c16 1000)), (.int (ci 0))] (SH, s28) r from ?_)
        split at hJ
        · cases hJ
        rename_i v31 h30
        refine Rn_call srt243 105 rfl rfl rfl ⟨Nat.le_of_ble_eq_true rfl, Nat.le_of_ble_eq_true rfl, rfl, Nat.le_of_ble_eq_true rfl⟩ (k_X12_lesser (d + 2) h30) (show Rn N xs (d + 3) me243 183 [some (.ref 88), some (.int x1), some (.int x2), none, none, none, some (.int x6)] [(.int v31), (.int (ci 0))] (SH, s28) r from ?_)
        split at hJ
        · cases hJ
        rename_i v33 h32
        refine Rn_call srt243 106 rfl rfl rfl ⟨Nat.le_of_ble_eq_true rfl, Nat.le_of_ble_eq_true rfl, rfl, Nat.le_of_ble_eq_true rfl⟩ (k_X12_greater (d + 2) h32) (show Rn N xs (d + 3) me243 186 [some (.ref 88), some (.int x1), some (.int x2), none, none, none, some (.int x6)] [(.int v33)] (SH, s28) r from ?_)
        rw [← Option.some.inj hJ] at hC
        have hC : r = (some (.int v33), (SH, s28)) := hC
        subst hC
        exact Rn_ret srt243 107 rfl rfl rfl
    · rw [if_neg h20] at hJ
      exact (k_X12_saysIn_187 d hJ hC)
def F_X12_saysIn_L113 (x1 : Int32) (x2 : Int32) (x6 : Int32) (s : mG) : Option (Int32 × mG) := whl (fun (v : (Int32 × Int32 × Int32 × mG)) => F_X12_saysIn_B113 v.1 v.2.1 v.2.2.1 v.2.2.2) (x1, x2, x6, s)
theorem k_X12_saysIn_L113 {N : Nat} {xs : Nat → Int32} (d : Nat) {r : Option Value × mH} {s : mG} {x1 : Int32} {x2 : Int32} {x6 : Int32} {τ : (Int32 × mG)} (hJ : F_X12_saysIn_L113 x1 x2 x6 s = some τ) (hC : (fun τ => r = (some (.int τ.1), (SH, τ.2))) τ) : Rn N xs (d + 3) me243 113 [some (.ref 88), some (.int x1), some (.int x2), none, none, none, some (.int x6)] [] (SH, s) r :=
  whl_link (P := fun (v : (Int32 × Int32 × Int32 × mG)) => Rn N xs (d + 3) me243 113 [some (.ref 88), some (.int v.1), some (.int v.2.1), none, none, none, some (.int v.2.2.1)] [] (SH, v.2.2.2) r) (C := (C_X12_saysIn_113 N xs d r (fun τ => r = (some (.int τ.1), (SH, τ.2))))) (fun v τ h1 h2 => k_X12_saysIn_B113 d h1 h2) (fun _ h => h) (fun _ h => h) _ _ hJ hC
def F_X12_saysIn_100 (x1 : Int32) (x2 : Int32) (x5 : Int32) (y1 : Int32) (y2 : Int32) (s : mG) : Option (Int32 × mG) :=
  if y1 < 0 ∨ 10 ≤ y1.toNatClampNeg then none else
  let s14 : mG := (mu s.1 97 y1.toNatClampNeg y2, s.2)
  let s15 : mG := (mu s14.1 97 9 x5, s14.2)
  F_X12_saysIn_L113 x1 x2 (ci 0) s15
set_option maxRecDepth 4000 in
theorem k_X12_saysIn_100 {N : Nat} {xs : Nat → Int32} (d : Nat) {r : Option Value × mH} {s : mG} {x1 : Int32} {x2 : Int32} {x5 : Int32} {y1 : Int32} {y2 : Int32} {τ : (Int32 × mG)} (hJ : F_X12_saysIn_100 x1 x2 x5 y1 y2 s = some τ) (hC : (fun τ => r = (some (.int τ.1), (SH, τ.2))) τ) : Rn N xs (d + 3) me243 100 [some (.ref 88), some (.int x1), some (.int x2), none, none, some (.int x5), none] [(.int y2), (.int y1), (.ref 97)] (SH, s) r := by
  unfold F_X12_saysIn_100 at hJ
  split at hJ
  · cases hJ
  rename_i h13
  extract_lets s14 at hJ
  refine Rn_ev srt243 62 rfl rfl rfl (op_ias sh97 h13 (k := y1.toNatClampNeg) rfl) ?_
  refine Rn_sq srt243 63 4 (pc' := 109) (ls' := [some (.ref 88), some (.int x1), some (.int x2), none, none, some (.int x5), none]) (st' := [(.int x5), (.int (c8 9)), (.ref 97)]) (h1 := (SH, s14)) rfl ?_
  extract_lets s15 at hJ
  refine Rn_ev srt243 67 rfl rfl rfl (op_ias sh97 (by decide) (k := 9) rfl) ?_
  refine Rn_sq srt243 68 2 (pc' := 113) (ls' := [some (.ref 88), some (.int x1), some (.int x2), none, none, some (.int x5), some (.int (ci 0))]) (st' := []) (h1 := (SH, s15)) rfl ?_
  exact Rn_weaken (a := [some (.ref 88), some (.int x1), some (.int x2), none, none, none, some (.int (ci 0))]) (b := [some (.ref 88), some (.int x1), some (.int x2), none, none, some (.int x5), some (.int (ci 0))]) (And.intro rfl (And.intro rfl (And.intro rfl (And.intro rfl trivial)))) rfl (k_X12_saysIn_L113 d hJ hC)
def F_X12_saysIn (a1 : Int32) (a2 : Int32) (a3 : Int32) (a4 : Int32) (a5 : Int32) (s : mG) : Option (Int32 × mG) :=
  let s1 : mG := (mu s.1 97 1 a2, s.2)
  if ((c8 119) + a2) < 0 ∨ 1894 ≤ ((c8 119) + a2).toNatClampNeg then none else
  let s3 : mG := (mu s1.1 97 2 (s1.1 89 ((c8 119) + a2).toNatClampNeg), s1.2)
  if ((c16 131) + a2) < 0 ∨ 1894 ≤ ((c16 131) + a2).toNatClampNeg then none else
  let s5 : mG := (mu s3.1 97 3 (s3.1 89 ((c16 131) + a2).toNatClampNeg), s3.2)
  let s6 : mG := (mu s5.1 97 4 (rm a3 (c8 24)), s5.2)
  let s7 : mG := (mu s6.1 97 5 (a3 / (c8 24)), s6.2)
  let s8 : mG := (mu s7.1 97 6 a4, s7.2)
  let s9 : mG := (mu s8.1 97 7 (s8.1 89 114), s8.2)
  match F_X12_isOnBoard s9 a2 with
  | none => none
  | some v11 =>
  if v11 = 0 then
    F_X12_saysIn_100 a1 a2 a5 (c8 8) (ci 0) s9
  else
    F_X12_saysIn_100 a1 a2 a5 (c8 8) (ci 1) s9
set_option maxRecDepth 4000 in
theorem k_X12_saysIn_r {N : Nat} {xs : Nat → Int32} (d : Nat) {r : Option Value × mH} {s : mG} {a1 : Int32} {a2 : Int32} {a3 : Int32} {a4 : Int32} {a5 : Int32} {τ : (Int32 × mG)} (hJ : F_X12_saysIn a1 a2 a3 a4 a5 s = some τ) (hC : (fun τ => r = (some (.int τ.1), (SH, τ.2))) τ) : Rn N xs (d + 3) me243 0 [some (.ref 88), some (.int a1), some (.int a2), some (.int a3), some (.int a4), some (.int a5), none] [] (SH, s) r := by
  unfold F_X12_saysIn at hJ
  refine Rn_sq srt243 0 4 (pc' := 6) (ls' := [some (.ref 88), some (.int a1), some (.int a2), some (.int a3), some (.int a4), some (.int a5), none]) (st' := [(.int a2), (.int (ci 1)), (.ref 97)]) (h1 := (SH, s)) rfl ?_
  extract_lets s1 at hJ
  refine Rn_ev srt243 4 rfl rfl rfl (op_ias sh97 (by decide) (k := 1) rfl) ?_
  refine Rn_sq srt243 5 8 (pc' := 20) (ls' := [some (.ref 88), some (.int a1), some (.int a2), some (.int a3), some (.int a4), some (.int a5), none]) (st' := [(.int ((c8 119) + a2)), (.ref 89), (.int (ci 2)), (.ref 97)]) (h1 := (SH, s1)) rfl ?_
  split at hJ
  · cases hJ
  rename_i h2
  refine Rn_ev srt243 13 rfl rfl rfl (op_ia sh89 h2 (k := ((c8 119) + a2).toNatClampNeg) rfl) ?_
  extract_lets s3 at hJ
  refine Rn_ev srt243 14 rfl rfl rfl (op_ias sh97 (by decide) (k := 2) rfl) ?_
  refine Rn_sq srt243 15 8 (pc' := 36) (ls' := [some (.ref 88), some (.int a1), some (.int a2), some (.int a3), some (.int a4), some (.int a5), none]) (st' := [(.int ((c16 131) + a2)), (.ref 89), (.int (ci 3)), (.ref 97)]) (h1 := (SH, s3)) rfl ?_
  split at hJ
  · cases hJ
  rename_i h4
  refine Rn_ev srt243 23 rfl rfl rfl (op_ia sh89 h4 (k := ((c16 131) + a2).toNatClampNeg) rfl) ?_
  extract_lets s5 at hJ
  refine Rn_ev srt243 24 rfl rfl rfl (op_ias sh97 (by decide) (k := 3) rfl) ?_
  refine Rn_sq srt243 25 5 (pc' := 46) (ls' := [some (.ref 88), some (.int a1), some (.int a2), some (.int a3), some (.int a4), some (.int a5), none]) (st' := [(.int (c8 24)), (.int a3), (.int (ci 4)), (.ref 97)]) (h1 := (SH, s5)) rfl ?_
  refine Rn_ev srt243 30 rfl rfl rfl (op_irem (by decide)) ?_
  extract_lets s6 at hJ
  refine Rn_ev srt243 31 rfl rfl rfl (op_ias sh97 (by decide) (k := 4) rfl) ?_
  refine Rn_sq srt243 32 5 (pc' := 56) (ls' := [some (.ref 88), some (.int a1), some (.int a2), some (.int a3), some (.int a4), some (.int a5), none]) (st' := [(.int (c8 24)), (.int a3), (.int (ci 5)), (.ref 97)]) (h1 := (SH, s6)) rfl ?_
  refine Rn_ev srt243 37 rfl rfl rfl (op_idiv (by decide)) ?_
  extract_lets s7 at hJ
  refine Rn_ev srt243 38 rfl rfl rfl (op_ias sh97 (by decide) (k := 5) rfl) ?_
  refine Rn_sq srt243 39 4 (pc' := 66) (ls' := [some (.ref 88), some (.int a1), some (.int a2), some (.int a3), some (.int a4), some (.int a5), none]) (st' := [(.int a4), (.int (c8 6)), (.ref 97)]) (h1 := (SH, s7)) rfl ?_
  extract_lets s8 at hJ
  refine Rn_ev srt243 43 rfl rfl rfl (op_ias sh97 (by decide) (k := 6) rfl) ?_
  refine Rn_sq srt243 44 6 (pc' := 79) (ls' := [some (.ref 88), some (.int a1), some (.int a2), some (.int a3), some (.int a4), some (.int a5), none]) (st' := [(.int (c8 114)), (.ref 89), (.int (c8 7)), (.ref 97)]) (h1 := (SH, s8)) rfl ?_
  refine Rn_ev srt243 50 rfl rfl rfl (op_ia sh89 (by decide) (k := 114) rfl) ?_
  extract_lets s9 at hJ
  refine Rn_ev srt243 51 rfl rfl rfl (op_ias sh97 (by decide) (k := 7) rfl) ?_
  refine Rn_sq srt243 52 5 (pc' := 89) (ls' := [some (.ref 88), some (.int a1), some (.int a2), some (.int a3), some (.int a4), some (.int a5), none]) (st' := [(.int a2), (.ref 88), (.int (c8 8)), (.ref 97)]) (h1 := (SH, s9)) rfl ?_
  split at hJ
  · cases hJ
  rename_i v11 h10
  refine Rn_call srt243 57 rfl rfl rfl ⟨Nat.le_of_ble_eq_true rfl, Nat.le_of_ble_eq_true rfl, rfl, Nat.le_of_ble_eq_true rfl⟩ (k_X12_isOnBoard (d + 2) h10) (show Rn N xs (d + 3) me243 92 [some (.ref 88), some (.int a1), some (.int a2), some (.int a3), some (.int a4), some (.int a5), none] [(.int v11), (.int (c8 8)), (.ref 97)] (SH, s9) r from ?_)
  refine Rn_sq srt243 58 1 (pc' := (if v11 = 0 then 99 else 95)) (ls' := [some (.ref 88), some (.int a1), some (.int a2), some (.int a3), some (.int a4), some (.int a5), none]) (st' := [(.int (c8 8)), (.ref 97)]) (h1 := (SH, s9)) rfl (Rn_if (fun h12 => ?_) (fun h12 => ?_))
  · rw [if_pos h12] at hJ
    refine Rn_sq srt243 61 1 (pc' := 100) (ls' := [some (.ref 88), some (.int a1), some (.int a2), some (.int a3), some (.int a4), some (.int a5), none]) (st' := [(.int (ci 0)), (.int (c8 8)), (.ref 97)]) (h1 := (SH, s9)) rfl ?_
    exact Rn_weaken (a := [some (.ref 88), some (.int a1), some (.int a2), none, none, some (.int a5), none]) (b := [some (.ref 88), some (.int a1), some (.int a2), some (.int a3), some (.int a4), some (.int a5), none]) (And.intro rfl (And.intro rfl (And.intro rfl (And.intro rfl trivial)))) rfl (k_X12_saysIn_100 d hJ hC)
  · rw [if_neg h12] at hJ
    refine Rn_sq srt243 59 2 (pc' := 100) (ls' := [some (.ref 88), some (.int a1), some (.int a2), some (.int a3), some (.int a4), some (.int a5), none]) (st' := [(.int (ci 1)), (.int (c8 8)), (.ref 97)]) (h1 := (SH, s9)) rfl ?_
    exact Rn_weaken (a := [some (.ref 88), some (.int a1), some (.int a2), none, none, some (.int a5), none]) (b := [some (.ref 88), some (.int a1), some (.int a2), some (.int a3), some (.int a4), some (.int a5), none]) (And.intro rfl (And.intro rfl (And.intro rfl (And.intro rfl trivial)))) rfl (k_X12_saysIn_100 d hJ hC)
theorem k_X12_saysIn {N : Nat} {xs : Nat → Int32} (d : Nat) {s : mG} {a1 : Int32} {a2 : Int32} {a3 : Int32} {a4 : Int32} {a5 : Int32} {τ : (Int32 × mG)} (hJ : F_X12_saysIn a1 a2 a3 a4 a5 s = some τ) : Rn N xs (d + 3) me243 0 [some (.ref 88), some (.int a1), some (.int a2), some (.int a3), some (.int a4), some (.int a5), none] [] (SH, s) (some (.int τ.1), (SH, τ.2)) := k_X12_saysIn_r d hJ rfl
/-! IsHeInModel.saysNow(II)I -/
theorem srt244 : m_srt mc244 = true := by decide +kernel
def F_X12_saysNow (a1 : Int32) (a2 : Int32) (s : mG) : Option (Int32 × mG) :=
  if ((c8 27) + a2) < 0 ∨ 1894 ≤ ((c8 27) + a2).toNatClampNeg then none else
  match F_X12_saysIn a1 a2 (s.1 89 0) (s.1 89 113) (s.1 89 ((c8 27) + a2).toNatClampNeg) s with
  | none => none
  | some (v4, s3) =>
  some (v4, s3)
set_option maxRecDepth 4000 in
theorem k_X12_saysNow_r {N : Nat} {xs : Nat → Int32} (d : Nat) {r : Option Value × mH} {s : mG} {a1 : Int32} {a2 : Int32} {τ : (Int32 × mG)} (hJ : F_X12_saysNow a1 a2 s = some τ) (hC : (fun τ => r = (some (.int τ.1), (SH, τ.2))) τ) : Rn N xs (d + 4) me244 0 [some (.ref 88), some (.int a1), some (.int a2)] [] (SH, s) r := by
  unfold F_X12_saysNow at hJ
  refine Rn_sq srt244 0 6 (pc' := 8) (ls' := [some (.ref 88), some (.int a1), some (.int a2)]) (st' := [(.int (ci 0)), (.ref 89), (.int a2), (.int a1), (.ref 88)]) (h1 := (SH, s)) rfl ?_
  refine Rn_ev srt244 6 rfl rfl rfl (op_ia sh89 (by decide) (k := 0) rfl) ?_
  refine Rn_sq srt244 7 3 (pc' := 15) (ls' := [some (.ref 88), some (.int a1), some (.int a2)]) (st' := [(.int (c8 113)), (.ref 89), (.int (s.1 89 0)), (.int a2), (.int a1), (.ref 88)]) (h1 := (SH, s)) rfl ?_
  refine Rn_ev srt244 10 rfl rfl rfl (op_ia sh89 (by decide) (k := 113) rfl) ?_
  refine Rn_sq srt244 11 5 (pc' := 24) (ls' := [some (.ref 88), some (.int a1), some (.int a2)]) (st' := [(.int ((c8 27) + a2)), (.ref 89), (.int (s.1 89 113)), (.int (s.1 89 0)), (.int a2), (.int a1), (.ref 88)]) (h1 := (SH, s)) rfl ?_
  split at hJ
  · cases hJ
  rename_i h1
  refine Rn_ev srt244 16 rfl rfl rfl (op_ia sh89 h1 (k := ((c8 27) + a2).toNatClampNeg) rfl) ?_
  split at hJ
  · cases hJ
  rename_i v4 s3 h2
  refine Rn_call srt244 17 rfl rfl rfl ⟨Nat.le_of_ble_eq_true rfl, Nat.le_of_ble_eq_true rfl, rfl, Nat.le_of_ble_eq_true rfl⟩ (k_X12_saysIn (d) h2) (show Rn N xs (d + 4) me244 28 [some (.ref 88), some (.int a1), some (.int a2)] [(.int v4)] (SH, s3) r from ?_)
  rw [← Option.some.inj hJ] at hC
  have hC : r = (some (.int v4), (SH, s3)) := hC
  subst hC
  exact Rn_ret srt244 18 rfl rfl rfl
theorem k_X12_saysNow {N : Nat} {xs : Nat → Int32} (d : Nat) {s : mG} {a1 : Int32} {a2 : Int32} {τ : (Int32 × mG)} (hJ : F_X12_saysNow a1 a2 s = some τ) : Rn N xs (d + 4) me244 0 [some (.ref 88), some (.int a1), some (.int a2)] [] (SH, s) (some (.int τ.1), (SH, τ.2)) := k_X12_saysNow_r d hJ rfl
/-! IsHeInModel.keeps()V -/
theorem srt245 : m_srt mc245 = true := by decide +kernel
def C_X12_keeps_11 (N : Nat) (xs : Nat → Int32) (d : Nat) (r : Option Value × mH) (C : (mG) → Prop) : ((Int32 × mG) ⊕ (mG)) → Prop
  | .inl v => Rn N xs (d + 0) me245 11 [some (.ref 88), some (.int v.1)] [] (SH, v.2) r
  | .inr a => C a
def C_X12_keeps_51 (N : Nat) (xs : Nat → Int32) (d : Nat) (r : Option Value × mH) (C : (mG) → Prop) : ((Int32 × mG) ⊕ (mG)) → Prop
  | .inl v => Rn N xs (d + 0) me245 51 [some (.ref 88), some (.int v.1)] [] (SH, v.2) r
  | .inr a => C a
def F_X12_keeps_B51 (x1 : Int32) (s : mG) : Option ((Int32 × mG) ⊕ (mG)) :=
  if (c8 112) ≤ x1 then
    let s5 : mG := (mu s.1 88 3 ((s.1 88 3) + (ci 1)), s.2)
    some (Sum.inr s5)
  else
    if x1 < 0 ∨ 1894 ≤ x1.toNatClampNeg then none else
    if (((c8 112) * (s.1 88 3)) + x1) < 0 ∨ 672 ≤ (((c8 112) * (s.1 88 3)) + x1).toNatClampNeg then none else
    let s8 : mG := (mu s.1 91 (((c8 112) * (s.1 88 3)) + x1).toNatClampNeg (s.1 89 x1.toNatClampNeg), s.2)
    some (Sum.inl ((x1 + ci 1), s8))
set_option maxRecDepth 4000 in
theorem k_X12_keeps_B51 {N : Nat} {xs : Nat → Int32} (d : Nat) {r : Option Value × mH} {s : mG} {x1 : Int32} {τ : ((Int32 × mG) ⊕ (mG))} (hJ : F_X12_keeps_B51 x1 s = some τ) (hC : (C_X12_keeps_51 N xs d r (fun τ => r = (none, (SH, τ)))) τ) : Rn N xs (d + 0) me245 51 [some (.ref 88), some (.int x1)] [] (SH, s) r := by
  unfold F_X12_keeps_B51 at hJ
  refine Rn_sq srt245 29 3 (pc' := (if (c8 112) ≤ x1 then 83 else 57)) (ls' := [some (.ref 88), some (.int x1)]) (st' := []) (h1 := (SH, s)) rfl (Rn_if (fun h4 => ?_) (fun h4 => ?_))
  · rw [if_pos h4] at hJ
    extract_lets s5 at hJ
    refine Rn_sq srt245 47 6 (pc' := 93) (ls' := [some (.ref 88), some (.int x1)]) (st' := []) (h1 := (SH, s5)) rfl ?_
    rw [← Option.some.inj hJ] at hC
    have hC : r = (none, (SH, s5)) := hC
    subst hC
    exact Rn_ret srt245 53 rfl rfl rfl
  · rw [if_neg h4] at hJ
    refine Rn_sq srt245 32 11 (pc' := 75) (ls' := [some (.ref 88), some (.int x1)]) (st' := [(.int x1), (.ref 89), (.int (((c8 112) * (s.1 88 3)) + x1)), (.ref 91)]) (h1 := (SH, s)) rfl ?_
    split at hJ
    · cases hJ
    rename_i h6
    refine Rn_ev srt245 43 rfl rfl rfl (op_ia sh89 h6 (k := x1.toNatClampNeg) rfl) ?_
    split at hJ
    · cases hJ
    rename_i h7
    extract_lets s8 at hJ
    refine Rn_ev srt245 44 rfl rfl rfl (op_ias sh91 h7 (k := (((c8 112) * (s.1 88 3)) + x1).toNatClampNeg) rfl) ?_
    refine Rn_sq srt245 45 2 (pc' := 51) (ls' := [some (.ref 88), some (.int (x1 + ci 1))]) (st' := []) (h1 := (SH, s8)) rfl ?_
    rw [← Option.some.inj hJ] at hC
    exact hC
def F_X12_keeps_L51 (x1 : Int32) (s : mG) : Option (mG) := whl (fun (v : (Int32 × mG)) => F_X12_keeps_B51 v.1 v.2) (x1, s)
theorem k_X12_keeps_L51 {N : Nat} {xs : Nat → Int32} (d : Nat) {r : Option Value × mH} {s : mG} {x1 : Int32} {τ : (mG)} (hJ : F_X12_keeps_L51 x1 s = some τ) (hC : (fun τ => r = (none, (SH, τ))) τ) : Rn N xs (d + 0) me245 51 [some (.ref 88), some (.int x1)] [] (SH, s) r :=
  whl_link (P := fun (v : (Int32 × mG)) => Rn N xs (d + 0) me245 51 [some (.ref 88), some (.int v.1)] [] (SH, v.2) r) (C := (C_X12_keeps_51 N xs d r (fun τ => r = (none, (SH, τ))))) (fun v τ h1 h2 => k_X12_keeps_B51 d h1 h2) (fun _ h => h) (fun _ h => h) _ _ hJ hC
def F_X12_keeps_49 (s : mG) : Option (mG) :=
  F_X12_keeps_L51 (ci 0) s
set_option maxRecDepth 4000 in
theorem k_X12_keeps_49 {N : Nat} {xs : Nat → Int32} (d : Nat) {r : Option Value × mH} {s : mG} {τ : (mG)} (hJ : F_X12_keeps_49 s = some τ) (hC : (fun τ => r = (none, (SH, τ))) τ) : Rn N xs (d + 0) me245 49 [some (.ref 88), none] [] (SH, s) r := by
  unfold F_X12_keeps_49 at hJ
  refine Rn_sq srt245 27 2 (pc' := 51) (ls' := [some (.ref 88), some (.int (ci 0))]) (st' := []) (h1 := (SH, s)) rfl ?_
  exact (k_X12_keeps_L51 d hJ hC)
def F_X12_keeps_B11 (x1 : Int32) (s : mG) : Option ((Int32 × mG) ⊕ (mG)) :=
  if (c16 560) ≤ x1 then
    let s3 : mG := (mu s.1 88 3 ((s.1 88 3) - (ci 1)), s.2)
    match F_X12_keeps_49 s3 with
    | none => none
    | some τ => some (Sum.inr τ)
  else
    if (x1 + (c8 112)) < 0 ∨ 672 ≤ (x1 + (c8 112)).toNatClampNeg then none else
    if x1 < 0 ∨ 672 ≤ x1.toNatClampNeg then none else
    let s11 : mG := (mu s.1 91 x1.toNatClampNeg (s.1 91 (x1 + (c8 112)).toNatClampNeg), s.2)
    some (Sum.inl ((x1 + ci 1), s11))
set_option maxRecDepth 4000 in
theorem k_X12_keeps_B11 {N : Nat} {xs : Nat → Int32} (d : Nat) {r : Option Value × mH} {s : mG} {x1 : Int32} {τ : ((Int32 × mG) ⊕ (mG))} (hJ : F_X12_keeps_B11 x1 s = some τ) (hC : (C_X12_keeps_11 N xs d r (fun τ => r = (none, (SH, τ)))) τ) : Rn N xs (d + 0) me245 11 [some (.ref 88), some (.int x1)] [] (SH, s) r := by
  unfold F_X12_keeps_B11 at hJ
  refine Rn_sq srt245 6 3 (pc' := (if (c16 560) ≤ x1 then 39 else 18)) (ls' := [some (.ref 88), some (.int x1)]) (st' := []) (h1 := (SH, s)) rfl (Rn_if (fun h2 => ?_) (fun h2 => ?_))
  · rw [if_pos h2] at hJ
    extract_lets s3 at hJ
    refine Rn_sq srt245 21 6 (pc' := 49) (ls' := [some (.ref 88), some (.int x1)]) (st' := []) (h1 := (SH, s3)) rfl ?_
    split at hJ
    · cases hJ
    · next τ1 hJ1 =>
      rw [← Option.some.inj hJ] at hC
      exact Rn_weaken (a := [some (.ref 88), none]) (b := [some (.ref 88), some (.int x1)]) (And.intro rfl trivial) rfl (k_X12_keeps_49 d hJ1 hC)
  · rw [if_neg h2] at hJ
    refine Rn_sq srt245 9 8 (pc' := 31) (ls' := [some (.ref 88), some (.int x1)]) (st' := [(.int (x1 + (c8 112))), (.ref 91), (.int x1), (.ref 91)]) (h1 := (SH, s)) rfl ?_
    split at hJ
    · cases hJ
    rename_i h9
    refine Rn_ev srt245 17 rfl rfl rfl (op_ia sh91 h9 (k := (x1 + (c8 112)).toNatClampNeg) rfl) ?_
    split at hJ
    · cases hJ
    rename_i h10
    extract_lets s11 at hJ
    refine Rn_ev srt245 18 rfl rfl rfl (op_ias sh91 h10 (k := x1.toNatClampNeg) rfl) ?_
    refine Rn_sq srt245 19 2 (pc' := 11) (ls' := [some (.ref 88), some (.int (x1 + ci 1))]) (st' := []) (h1 := (SH, s11)) rfl ?_
    rw [← Option.some.inj hJ] at hC
    exact hC
def F_X12_keeps_L11 (x1 : Int32) (s : mG) : Option (mG) := whl (fun (v : (Int32 × mG)) => F_X12_keeps_B11 v.1 v.2) (x1, s)
theorem k_X12_keeps_L11 {N : Nat} {xs : Nat → Int32} (d : Nat) {r : Option Value × mH} {s : mG} {x1 : Int32} {τ : (mG)} (hJ : F_X12_keeps_L11 x1 s = some τ) (hC : (fun τ => r = (none, (SH, τ))) τ) : Rn N xs (d + 0) me245 11 [some (.ref 88), some (.int x1)] [] (SH, s) r :=
  whl_link (P := fun (v : (Int32 × mG)) => Rn N xs (d + 0) me245 11 [some (.ref 88), some (.int v.1)] [] (SH, v.2) r) (C := (C_X12_keeps_11 N xs d r (fun τ => r = (none, (SH, τ))))) (fun v τ h1 h2 => k_X12_keeps_B11 d h1 h2) (fun _ h => h) (fun _ h => h) _ _ hJ hC
def F_X12_keeps (s : mG) : Option (mG) :=
  if (s.1 88 3) = (c8 6) then
    F_X12_keeps_L11 (ci 0) s
  else
    F_X12_keeps_49 s
set_option maxRecDepth 4000 in
theorem k_X12_keeps_r {N : Nat} {xs : Nat → Int32} (d : Nat) {r : Option Value × mH} {s : mG} {τ : (mG)} (hJ : F_X12_keeps s = some τ) (hC : (fun τ => r = (none, (SH, τ))) τ) : Rn N xs (d + 0) me245 0 [some (.ref 88), none] [] (SH, s) r := by
  unfold F_X12_keeps at hJ
  refine Rn_sq srt245 0 4 (pc' := (if (s.1 88 3) = (c8 6) then 9 else 49)) (ls' := [some (.ref 88), none]) (st' := []) (h1 := (SH, s)) rfl (Rn_if (fun h1 => ?_) (fun h1 => ?_))
  · rw [if_pos h1] at hJ
    refine Rn_sq srt245 4 2 (pc' := 11) (ls' := [some (.ref 88), some (.int (ci 0))]) (st' := []) (h1 := (SH, s)) rfl ?_
    exact (k_X12_keeps_L11 d hJ hC)
  · rw [if_neg h1] at hJ
    exact (k_X12_keeps_49 d hJ hC)
theorem k_X12_keeps {N : Nat} {xs : Nat → Int32} (d : Nat) {s : mG} {τ : (mG)} (hJ : F_X12_keeps s = some τ) : Rn N xs (d + 0) me245 0 [some (.ref 88), none] [] (SH, s) (none, (SH, τ)) := k_X12_keeps_r d hJ rfl
/-! IsHeInModel.undo()Z -/
theorem srt246 : m_srt mc246 = true := by decide +kernel
def C_X12_undo_21 (N : Nat) (xs : Nat → Int32) (d : Nat) (r : Option Value × mH) (C : (Int32 × mG) → Prop) : ((Int32 × mG) ⊕ (Int32 × mG)) → Prop
  | .inl v => Rn N xs (d + 0) me246 21 [some (.ref 88), some (.int v.1)] [] (SH, v.2) r
  | .inr a => C a
def F_X12_undo_B21 (x1 : Int32) (s : mG) : Option ((Int32 × mG) ⊕ (Int32 × mG)) :=
  if (c8 112) ≤ x1 then
    some (Sum.inr ((ci 1), s))
  else
    if (((c8 112) * (s.1 88 3)) + x1) < 0 ∨ 672 ≤ (((c8 112) * (s.1 88 3)) + x1).toNatClampNeg then none else
    if x1 < 0 ∨ 1894 ≤ x1.toNatClampNeg then none else
    let s6 : mG := (mu s.1 89 x1.toNatClampNeg (s.1 91 (((c8 112) * (s.1 88 3)) + x1).toNatClampNeg), s.2)
    some (Sum.inl ((x1 + ci 1), s6))
set_option maxRecDepth 4000 in
theorem k_X12_undo_B21 {N : Nat} {xs : Nat → Int32} (d : Nat) {r : Option Value × mH} {s : mG} {x1 : Int32} {τ : ((Int32 × mG) ⊕ (Int32 × mG))} (hJ : F_X12_undo_B21 x1 s = some τ) (hC : (C_X12_undo_21 N xs d r (fun τ => r = (some (.int τ.1), (SH, τ.2)))) τ) : Rn N xs (d + 0) me246 21 [some (.ref 88), some (.int x1)] [] (SH, s) r := by
  unfold F_X12_undo_B21 at hJ
  refine Rn_sq srt246 13 3 (pc' := (if (c8 112) ≤ x1 then 53 else 27)) (ls' := [some (.ref 88), some (.int x1)]) (st' := []) (h1 := (SH, s)) rfl (Rn_if (fun h3 => ?_) (fun h3 => ?_))
  · rw [if_pos h3] at hJ
    refine Rn_sq srt246 31 1 (pc' := 54) (ls' := [some (.ref 88), some (.int x1)]) (st' := [(.int (ci 1))]) (h1 := (SH, s)) rfl ?_
    rw [← Option.some.inj hJ] at hC
    have hC : r = (some (.int (ci 1)), (SH, s)) := hC
    subst hC
    exact Rn_ret srt246 32 rfl rfl (if_pos (by decide))
  · rw [if_neg h3] at hJ
    refine Rn_sq srt246 16 11 (pc' := 45) (ls' := [some (.ref 88), some (.int x1)]) (st' := [(.int (((c8 112) * (s.1 88 3)) + x1)), (.ref 91), (.int x1), (.ref 89)]) (h1 := (SH, s)) rfl ?_
    split at hJ
    · cases hJ
    rename_i h4
    refine Rn_ev srt246 27 rfl rfl rfl (op_ia sh91 h4 (k := (((c8 112) * (s.1 88 3)) + x1).toNatClampNeg) rfl) ?_
    split at hJ
    · cases hJ
    rename_i h5
    extract_lets s6 at hJ
    refine Rn_ev srt246 28 rfl rfl rfl (op_ias sh89 h5 (k := x1.toNatClampNeg) rfl) ?_
    refine Rn_sq srt246 29 2 (pc' := 21) (ls' := [some (.ref 88), some (.int (x1 + ci 1))]) (st' := []) (h1 := (SH, s6)) rfl ?_
    rw [← Option.some.inj hJ] at hC
    exact hC
def F_X12_undo_L21 (x1 : Int32) (s : mG) : Option (Int32 × mG) := whl (fun (v : (Int32 × mG)) => F_X12_undo_B21 v.1 v.2) (x1, s)
theorem k_X12_undo_L21 {N : Nat} {xs : Nat → Int32} (d : Nat) {r : Option Value × mH} {s : mG} {x1 : Int32} {τ : (Int32 × mG)} (hJ : F_X12_undo_L21 x1 s = some τ) (hC : (fun τ => r = (some (.int τ.1), (SH, τ.2))) τ) : Rn N xs (d + 0) me246 21 [some (.ref 88), some (.int x1)] [] (SH, s) r :=
  whl_link (P := fun (v : (Int32 × mG)) => Rn N xs (d + 0) me246 21 [some (.ref 88), some (.int v.1)] [] (SH, v.2) r) (C := (C_X12_undo_21 N xs d r (fun τ => r = (some (.int τ.1), (SH, τ.2))))) (fun v τ h1 h2 => k_X12_undo_B21 d h1 h2) (fun _ h => h) (fun _ h => h) _ _ hJ hC
def F_X12_undo (s : mG) : Option (Int32 × mG) :=
  if (s.1 88 3) = 0 then
    some ((ci 0), s)
  else
    let s2 : mG := (mu s.1 88 3 ((s.1 88 3) - (ci 1)), s.2)
    F_X12_undo_L21 (ci 0) s2
set_option maxRecDepth 4000 in
theorem k_X12_undo_r {N : Nat} {xs : Nat → Int32} (d : Nat) {r : Option Value × mH} {s : mG} {τ : (Int32 × mG)} (hJ : F_X12_undo s = some τ) (hC : (fun τ => r = (some (.int τ.1), (SH, τ.2))) τ) : Rn N xs (d + 0) me246 0 [some (.ref 88), none] [] (SH, s) r := by
  unfold F_X12_undo at hJ
  refine Rn_sq srt246 0 3 (pc' := (if (s.1 88 3) = 0 then 7 else 9)) (ls' := [some (.ref 88), none]) (st' := []) (h1 := (SH, s)) rfl (Rn_if (fun h1 => ?_) (fun h1 => ?_))
  · rw [if_pos h1] at hJ
    refine Rn_sq srt246 3 1 (pc' := 8) (ls' := [some (.ref 88), none]) (st' := [(.int (ci 0))]) (h1 := (SH, s)) rfl ?_
    rw [← Option.some.inj hJ] at hC
    have hC : r = (some (.int (ci 0)), (SH, s)) := hC
    subst hC
    exact Rn_ret srt246 4 rfl rfl (if_pos (by decide))
  · rw [if_neg h1] at hJ
    extract_lets s2 at hJ
    refine Rn_sq srt246 5 8 (pc' := 21) (ls' := [some (.ref 88), some (.int (ci 0))]) (st' := []) (h1 := (SH, s2)) rfl ?_
    exact (k_X12_undo_L21 d hJ hC)
theorem k_X12_undo {N : Nat} {xs : Nat → Int32} (d : Nat) {s : mG} {τ : (Int32 × mG)} (hJ : F_X12_undo s = some τ) : Rn N xs (d + 0) me246 0 [some (.ref 88), none] [] (SH, s) (some (.int τ.1), (SH, τ.2)) := k_X12_undo_r d hJ rfl
/-! IsHeInModel.notes(IIII)V -/
theorem srt247 : m_srt mc247 = true := by decide +kernel
def F_X12_notes (a1 : Int32) (a2 : Int32) (a3 : Int32) (a4 : Int32) (s : mG) : Option (mG) :=
  if (s.1 89 2) = (c16 150) then
    some s
  else
    let v2 : Int32 := ((c16 235) + ((ci 5) * (s.1 89 2)))
    if v2 < 0 ∨ 1894 ≤ v2.toNatClampNeg then none else
    let s4 : mG := (mu s.1 89 v2.toNatClampNeg (s.1 89 0), s.2)
    if (v2 + (ci 1)) < 0 ∨ 1894 ≤ (v2 + (ci 1)).toNatClampNeg then none else
    let s6 : mG := (mu s4.1 89 (v2 + (ci 1)).toNatClampNeg a1, s4.2)
    if (v2 + (ci 2)) < 0 ∨ 1894 ≤ (v2 + (ci 2)).toNatClampNeg then none else
    let s8 : mG := (mu s6.1 89 (v2 + (ci 2)).toNatClampNeg a2, s6.2)
    if (v2 + (ci 3)) < 0 ∨ 1894 ≤ (v2 + (ci 3)).toNatClampNeg then none else
    let s10 : mG := (mu s8.1 89 (v2 + (ci 3)).toNatClampNeg a3, s8.2)
    if (v2 + (ci 4)) < 0 ∨ 1894 ≤ (v2 + (ci 4)).toNatClampNeg then none else
    let s12 : mG := (mu s10.1 89 (v2 + (ci 4)).toNatClampNeg a4, s10.2)
    let s13 : mG := (mu s12.1 89 2 ((s12.1 89 2) + (ci 1)), s12.2)
    some s13
set_option maxRecDepth 4000 in
theorem k_X12_notes_r {N : Nat} {xs : Nat → Int32} (d : Nat) {r : Option Value × mH} {s : mG} {a1 : Int32} {a2 : Int32} {a3 : Int32} {a4 : Int32} {τ : (mG)} (hJ : F_X12_notes a1 a2 a3 a4 s = some τ) (hC : (fun τ => r = (none, (SH, τ))) τ) : Rn N xs (d + 0) me247 0 [some (.ref 88), some (.int a1), some (.int a2), some (.int a3), some (.int a4), none] [] (SH, s) r := by
  unfold F_X12_notes at hJ
  refine Rn_sq srt247 0 3 (pc' := 5) (ls' := [some (.ref 88), some (.int a1), some (.int a2), some (.int a3), some (.int a4), none]) (st' := [(.int (ci 2)), (.ref 89)]) (h1 := (SH, s)) rfl ?_
  refine Rn_ev srt247 3 rfl rfl rfl (op_ia sh89 (by decide) (k := 2) rfl) ?_
  refine Rn_sq srt247 4 2 (pc' := (if (s.1 89 2) = (c16 150) then 12 else 13)) (ls' := [some (.ref 88), some (.int a1), some (.int a2), some (.int a3), some (.int a4), none]) (st' := []) (h1 := (SH, s)) rfl (Rn_if (fun h1 => ?_) (fun h1 => ?_))
  · rw [if_pos h1] at hJ
    rw [← Option.some.inj hJ] at hC
    have hC : r = (none, (SH, s)) := hC
    subst hC
    exact Rn_ret srt247 6 rfl rfl rfl
  · rw [if_neg h1] at hJ
    refine Rn_sq srt247 7 5 (pc' := 22) (ls' := [some (.ref 88), some (.int a1), some (.int a2), some (.int a3), some (.int a4), none]) (st' := [(.int (ci 2)), (.ref 89), (.int (ci 5)), (.int (c16 235))]) (h1 := (SH, s)) rfl ?_
    refine Rn_ev srt247 12 rfl rfl rfl (op_ia sh89 (by decide) (k := 2) rfl) ?_
    extract_lets v2 at hJ
    refine Rn_sq srt247 13 9 (pc' := 38) (ls' := [some (.ref 88), some (.int a1), some (.int a2), some (.int a3), some (.int a4), some (.int v2)]) (st' := [(.int (ci 0)), (.ref 89), (.int v2), (.ref 89)]) (h1 := (SH, s)) rfl ?_
    refine Rn_ev srt247 22 rfl rfl rfl (op_ia sh89 (by decide) (k := 0) rfl) ?_
    split at hJ
    · cases hJ
    rename_i h3
    extract_lets s4 at hJ
    refine Rn_ev srt247 23 rfl rfl rfl (op_ias sh89 h3 (k := v2.toNatClampNeg) rfl) ?_
    refine Rn_sq srt247 24 6 (pc' := 49) (ls' := [some (.ref 88), some (.int a1), some (.int a2), some (.int a3), some (.int a4), some (.int v2)]) (st' := [(.int a1), (.int (v2 + (ci 1))), (.ref 89)]) (h1 := (SH, s4)) rfl ?_
    split at hJ
    · cases hJ
    rename_i h5
    extract_lets s6 at hJ
    refine Rn_ev srt247 30 rfl rfl rfl (op_ias sh89 h5 (k := (v2 + (ci 1)).toNatClampNeg) rfl) ?_
    refine Rn_sq srt247 31 6 (pc' := 59) (ls' := [some (.ref 88), some (.int a1), some (.int a2), some (.int a3), some (.int a4), some (.int v2)]) (st' := [(.int a2), (.int (v2 + (ci 2))), (.ref 89)]) (h1 := (SH, s6)) rfl ?_
    split at hJ
    · cases hJ
    rename_i h7
    extract_lets s8 at hJ
    refine Rn_ev srt247 37 rfl rfl rfl (op_ias sh89 h7 (k := (v2 + (ci 2)).toNatClampNeg) rfl) ?_
    refine Rn_sq srt247 38 6 (pc' := 69) (ls' := [some (.ref 88), some (.int a1), some (.int a2), some (.int a3), some (.int a4), some (.int v2)]) (st' := [(.int a3), (.int (v2 + (ci 3))), (.ref 89)]) (h1 := (SH, s8)) rfl ?_
    split at hJ
    · cases hJ
    rename_i h9
    extract_lets s10 at hJ
    refine Rn_ev srt247 44 rfl rfl rfl (op_ias sh89 h9 (k := (v2 + (ci 3)).toNatClampNeg) rfl) ?_
    refine Rn_sq srt247 45 6 (pc' := 80) (ls' := [some (.ref 88), some (.int a1), some (.int a2), some (.int a3), some (.int a4), some (.int v2)]) (st' := [(.int a4), (.int (v2 + (ci 4))), (.ref 89)]) (h1 := (SH, s10)) rfl ?_
    split at hJ
    · cases hJ
    rename_i h11
    extract_lets s12 at hJ
    refine Rn_ev srt247 51 rfl rfl rfl (op_ias sh89 h11 (k := (v2 + (ci 4)).toNatClampNeg) rfl) ?_
    refine Rn_sq srt247 52 4 (pc' := 87) (ls' := [some (.ref 88), some (.int a1), some (.int a2), some (.int a3), some (.int a4), some (.int v2)]) (st' := [(.int (ci 2)), (.ref 89), (.int (ci 2)), (.ref 89)]) (h1 := (SH, s12)) rfl ?_
    refine Rn_ev srt247 56 rfl rfl rfl (op_ia sh89 (by decide) (k := 2) rfl) ?_
    refine Rn_sq srt247 57 2 (pc' := 90) (ls' := [some (.ref 88), some (.int a1), some (.int a2), some (.int a3), some (.int a4), some (.int v2)]) (st' := [(.int ((s12.1 89 2) + (ci 1))), (.int (ci 2)), (.ref 89)]) (h1 := (SH, s12)) rfl ?_
    extract_lets s13 at hJ
    refine Rn_ev srt247 59 rfl rfl rfl (op_ias sh89 (by decide) (k := 2) rfl) ?_
    rw [← Option.some.inj hJ] at hC
    have hC : r = (none, (SH, s13)) := hC
    subst hC
    exact Rn_ret srt247 60 rfl rfl rfl
theorem k_X12_notes {N : Nat} {xs : Nat → Int32} (d : Nat) {s : mG} {a1 : Int32} {a2 : Int32} {a3 : Int32} {a4 : Int32} {τ : (mG)} (hJ : F_X12_notes a1 a2 a3 a4 s = some τ) : Rn N xs (d + 0) me247 0 [some (.ref 88), some (.int a1), some (.int a2), some (.int a3), some (.int a4), none] [] (SH, s) (none, (SH, τ)) := k_X12_notes_r d hJ rfl
/-! IsHeInModel.keyOn(I)I -/
theorem srt248 : m_srt mc248 = true := by decide +kernel
def C_X12_keyOn_2 (N : Nat) (xs : Nat → Int32) (s : mG) (d : Nat) (r : Option Value × mH) (C : (Int32) → Prop) : ((Int32 × Int32) ⊕ (Int32)) → Prop
  | .inl v => Rn N xs (d + 0) me248 2 [some (.ref 88), some (.int v.1), some (.int v.2)] [] (SH, s) r
  | .inr a => C a
def F_X12_keyOn_B2 (s : mG) (x1 : Int32) (x2 : Int32) : Option ((Int32 × Int32) ⊕ (Int32)) :=
  if (s.1 89 112) ≤ x2 then
    some (Sum.inr (ci (-1)))
  else
    if ((c8 15) + x2) < 0 ∨ 1894 ≤ ((c8 15) + x2).toNatClampNeg then none else
    if (s.1 89 ((c8 15) + x2).toNatClampNeg) = x1 then
      some (Sum.inr x2)
    else
      some (Sum.inl (x1, (x2 + ci 1)))
set_option maxRecDepth 4000 in
theorem k_X12_keyOn_B2 {N : Nat} {xs : Nat → Int32} (d : Nat) {r : Option Value × mH} {s : mG} {x1 : Int32} {x2 : Int32} {τ : ((Int32 × Int32) ⊕ (Int32))} (hJ : F_X12_keyOn_B2 s x1 x2 = some τ) (hC : (C_X12_keyOn_2 N xs s d r (fun τ => r = (some (.int τ), (SH, s)))) τ) : Rn N xs (d + 0) me248 2 [some (.ref 88), some (.int x1), some (.int x2)] [] (SH, s) r := by
  unfold F_X12_keyOn_B2 at hJ
  refine Rn_sq srt248 2 4 (pc' := 9) (ls' := [some (.ref 88), some (.int x1), some (.int x2)]) (st' := [(.int (c8 112)), (.ref 89), (.int x2)]) (h1 := (SH, s)) rfl ?_
  refine Rn_ev srt248 6 rfl rfl rfl (op_ia sh89 (by decide) (k := 112) rfl) ?_
  refine Rn_sq srt248 7 1 (pc' := (if (s.1 89 112) ≤ x2 then 34 else 13)) (ls' := [some (.ref 88), some (.int x1), some (.int x2)]) (st' := []) (h1 := (SH, s)) rfl (Rn_if (fun h1 => ?_) (fun h1 => ?_))
  · rw [if_pos h1] at hJ
    refine Rn_sq srt248 20 1 (pc' := 35) (ls' := [some (.ref 88), some (.int x1), some (.int x2)]) (st' := [(.int (ci (-1)))]) (h1 := (SH, s)) rfl ?_
    rw [← Option.some.inj hJ] at hC
    have hC : r = (some (.int (ci (-1))), (SH, s)) := hC
    subst hC
    exact Rn_ret srt248 21 rfl rfl rfl
  · rw [if_neg h1] at hJ
    refine Rn_sq srt248 8 5 (pc' := 21) (ls' := [some (.ref 88), some (.int x1), some (.int x2)]) (st' := [(.int ((c8 15) + x2)), (.ref 89)]) (h1 := (SH, s)) rfl ?_
    split at hJ
    · cases hJ
    rename_i h2
    refine Rn_ev srt248 13 rfl rfl rfl (op_ia sh89 h2 (k := ((c8 15) + x2).toNatClampNeg) rfl) ?_
    refine Rn_sq srt248 14 2 (pc' := (if (s.1 89 ((c8 15) + x2).toNatClampNeg) = x1 then 26 else 28)) (ls' := [some (.ref 88), some (.int x1), some (.int x2)]) (st' := []) (h1 := (SH, s)) rfl (Rn_if (fun h3 => ?_) (fun h3 => ?_))
    · rw [if_pos h3] at hJ
      refine Rn_sq srt248 16 1 (pc' := 27) (ls' := [some (.ref 88), some (.int x1), some (.int x2)]) (st' := [(.int x2)]) (h1 := (SH, s)) rfl ?_
      rw [← Option.some.inj hJ] at hC
      have hC : r = (some (.int x2), (SH, s)) := hC
      subst hC
      exact Rn_ret srt248 17 rfl rfl rfl
    · rw [if_neg h3] at hJ
      refine Rn_sq srt248 18 2 (pc' := 2) (ls' := [some (.ref 88), some (.int x1), some (.int (x2 + ci 1))]) (st' := []) (h1 := (SH, s)) rfl ?_
      rw [← Option.some.inj hJ] at hC
      exact hC
def F_X12_keyOn_L2 (s : mG) (x1 : Int32) (x2 : Int32) : Option (Int32) := whl (fun (v : (Int32 × Int32)) => F_X12_keyOn_B2 s v.1 v.2) (x1, x2)
theorem k_X12_keyOn_L2 {N : Nat} {xs : Nat → Int32} (d : Nat) {r : Option Value × mH} {s : mG} {x1 : Int32} {x2 : Int32} {τ : (Int32)} (hJ : F_X12_keyOn_L2 s x1 x2 = some τ) (hC : (fun τ => r = (some (.int τ), (SH, s))) τ) : Rn N xs (d + 0) me248 2 [some (.ref 88), some (.int x1), some (.int x2)] [] (SH, s) r :=
  whl_link (P := fun (v : (Int32 × Int32)) => Rn N xs (d + 0) me248 2 [some (.ref 88), some (.int v.1), some (.int v.2)] [] (SH, s) r) (C := (C_X12_keyOn_2 N xs s d r (fun τ => r = (some (.int τ), (SH, s))))) (fun v τ h1 h2 => k_X12_keyOn_B2 d h1 h2) (fun _ h => h) (fun _ h => h) _ _ hJ hC
def F_X12_keyOn (s : mG) (a1 : Int32) : Option (Int32) :=
  F_X12_keyOn_L2 s a1 (ci 0)
set_option maxRecDepth 4000 in
theorem k_X12_keyOn_r {N : Nat} {xs : Nat → Int32} (d : Nat) {r : Option Value × mH} {s : mG} {a1 : Int32} {τ : (Int32)} (hJ : F_X12_keyOn s a1 = some τ) (hC : (fun τ => r = (some (.int τ), (SH, s))) τ) : Rn N xs (d + 0) me248 0 [some (.ref 88), some (.int a1), none] [] (SH, s) r := by
  unfold F_X12_keyOn at hJ
  refine Rn_sq srt248 0 2 (pc' := 2) (ls' := [some (.ref 88), some (.int a1), some (.int (ci 0))]) (st' := []) (h1 := (SH, s)) rfl ?_
  exact (k_X12_keyOn_L2 d hJ hC)
theorem k_X12_keyOn {N : Nat} {xs : Nat → Int32} (d : Nat) {s : mG} {a1 : Int32} {τ : (Int32)} (hJ : F_X12_keyOn s a1 = some τ) : Rn N xs (d + 0) me248 0 [some (.ref 88), some (.int a1), none] [] (SH, s) (some (.int τ), (SH, s)) := k_X12_keyOn_r d hJ rfl
/-! IsHeInModel.clerkAt(I)I -/
theorem srt249 : m_srt mc249 = true := by decide +kernel
def C_X12_clerkAt_2 (N : Nat) (xs : Nat → Int32) (s : mG) (d : Nat) (r : Option Value × mH) (C : (Int32) → Prop) : ((Int32 × Int32) ⊕ (Int32)) → Prop
  | .inl v => Rn N xs (d + 0) me249 2 [some (.ref 88), some (.int v.1), some (.int v.2), none] [] (SH, s) r
  | .inr a => C a
def F_X12_clerkAt_75 (s : mG) (x1 : Int32) (x2 : Int32) : Option ((Int32 × Int32) ⊕ (Int32)) :=
  some (Sum.inl (x1, (x2 + ci 1)))
set_option maxRecDepth 4000 in
theorem k_X12_clerkAt_75 {N : Nat} {xs : Nat → Int32} (d : Nat) {r : Option Value × mH} {s : mG} {x1 : Int32} {x2 : Int32} {τ : ((Int32 × Int32) ⊕ (Int32))} (hJ : F_X12_clerkAt_75 s x1 x2 = some τ) (hC : (C_X12_clerkAt_2 N xs s d r (fun τ => r = (some (.int τ), (SH, s)))) τ) : Rn N xs (d + 0) me249 75 [some (.ref 88), some (.int x1), some (.int x2), none] [] (SH, s) r := by
  unfold F_X12_clerkAt_75 at hJ
  refine Rn_sq srt249 51 2 (pc' := 2) (ls' := [some (.ref 88), some (.int x1), some (.int (x2 + ci 1)), none]) (st' := []) (h1 := (SH, s)) rfl ?_
  rw [← Option.some.inj hJ] at hC
  exact hC
def F_X12_clerkAt_B2 (s : mG) (x1 : Int32) (x2 : Int32) : Option ((Int32 × Int32) ⊕ (Int32)) :=
  if (s.1 89 116) ≤ x2 then
    some (Sum.inr (ci (-1)))
  else
    let v2 : Int32 := ((c16 155) + ((ci 4) * x2))
    if (v2 + (ci 3)) < 0 ∨ 1894 ≤ (v2 + (ci 3)).toNatClampNeg then none else
    if (s.1 89 (v2 + (ci 3)).toNatClampNeg) = x1 then
      if (v2 + (ci 1)) < 0 ∨ 1894 ≤ (v2 + (ci 1)).toNatClampNeg then none else
      if (v2 + (ci 2)) < 0 ∨ 1894 ≤ (v2 + (ci 2)).toNatClampNeg then none else
      if (s.1 89 (v2 + (ci 2)).toNatClampNeg) ≤ (rm (((rm (s.1 89 0) (c8 24)) + (c8 24)) - (s.1 89 (v2 + (ci 1)).toNatClampNeg)) (c8 24)) then
        F_X12_clerkAt_75 s x1 x2
      else
        if v2 < 0 ∨ 1894 ≤ v2.toNatClampNeg then none else
        some (Sum.inr (s.1 89 v2.toNatClampNeg))
    else
      F_X12_clerkAt_75 s x1 x2
set_option maxRecDepth 4000 in
theorem k_X12_clerkAt_B2 {N : Nat} {xs : Nat → Int32} (d : Nat) {r : Option Value × mH} {s : mG} {x1 : Int32} {x2 : Int32} {τ : ((Int32 × Int32) ⊕ (Int32))} (hJ : F_X12_clerkAt_B2 s x1 x2 = some τ) (hC : (C_X12_clerkAt_2 N xs s d r (fun τ => r = (some (.int τ), (SH, s)))) τ) : Rn N xs (d + 0) me249 2 [some (.ref 88), some (.int x1), some (.int x2), none] [] (SH, s) r := by
  unfold F_X12_clerkAt_B2 at hJ
  refine Rn_sq srt249 2 4 (pc' := 9) (ls' := [some (.ref 88), some (.int x1), some (.int x2), none]) (st' := [(.int (c8 116)), (.ref 89), (.int x2)]) (h1 := (SH, s)) rfl ?_
  refine Rn_ev srt249 6 rfl rfl rfl (op_ia sh89 (by decide) (k := 116) rfl) ?_
  refine Rn_sq srt249 7 1 (pc' := (if (s.1 89 116) ≤ x2 then 81 else 13)) (ls' := [some (.ref 88), some (.int x1), some (.int x2), none]) (st' := []) (h1 := (SH, s)) rfl (Rn_if (fun h1 => ?_) (fun h1 => ?_))
  · rw [if_pos h1] at hJ
    refine Rn_sq srt249 53 1 (pc' := 82) (ls' := [some (.ref 88), some (.int x1), some (.int x2), none]) (st' := [(.int (ci (-1)))]) (h1 := (SH, s)) rfl ?_
    rw [← Option.some.inj hJ] at hC
    have hC : r = (some (.int (ci (-1))), (SH, s)) := hC
    subst hC
    exact Rn_ret srt249 54 rfl rfl rfl
  · rw [if_neg h1] at hJ
    extract_lets v2 at hJ
    refine Rn_sq srt249 8 11 (pc' := 28) (ls' := [some (.ref 88), some (.int x1), some (.int x2), some (.int v2)]) (st' := [(.int (v2 + (ci 3))), (.ref 89)]) (h1 := (SH, s)) rfl ?_
    split at hJ
    · cases hJ
    rename_i h3
    refine Rn_ev srt249 19 rfl rfl rfl (op_ia sh89 h3 (k := (v2 + (ci 3)).toNatClampNeg) rfl) ?_
    refine Rn_sq srt249 20 2 (pc' := (if (s.1 89 (v2 + (ci 3)).toNatClampNeg) = x1 then 33 else 75)) (ls' := [some (.ref 88), some (.int x1), some (.int x2), some (.int v2)]) (st' := []) (h1 := (SH, s)) rfl (Rn_if (fun h4 => ?_) (fun h4 => ?_))
    · rw [if_pos h4] at hJ
      refine Rn_sq srt249 22 3 (pc' := 38) (ls' := [some (.ref 88), some (.int x1), some (.int x2), some (.int v2)]) (st' := [(.int (ci 0)), (.ref 89)]) (h1 := (SH, s)) rfl ?_
      refine Rn_ev srt249 25 rfl rfl rfl (op_ia sh89 (by decide) (k := 0) rfl) ?_
      refine Rn_sq srt249 26 1 (pc' := 41) (ls' := [some (.ref 88), some (.int x1), some (.int x2), some (.int v2)]) (st' := [(.int (c8 24)), (.int (s.1 89 0))]) (h1 := (SH, s)) rfl ?_
      refine Rn_ev srt249 27 rfl rfl rfl (op_irem (by decide)) ?_
      refine Rn_sq srt249 28 7 (pc' := 52) (ls' := [some (.ref 88), some (.int x1), some (.int x2), some (.int v2)]) (st' := [(.int (v2 + (ci 1))), (.ref 89), (.int ((rm (s.1 89 0) (c8 24)) + (c8 24)))]) (h1 := (SH, s)) rfl ?_
      split at hJ
      · cases hJ
      rename_i h5
      refine Rn_ev srt249 35 rfl rfl rfl (op_ia sh89 h5 (k := (v2 + (ci 1)).toNatClampNeg) rfl) ?_
      refine Rn_sq srt249 36 2 (pc' := 56) (ls' := [some (.ref 88), some (.int x1), some (.int x2), some (.int v2)]) (st' := [(.int (c8 24)), (.int (((rm (s.1 89 0) (c8 24)) + (c8 24)) - (s.1 89 (v2 + (ci 1)).toNatClampNeg)))]) (h1 := (SH, s)) rfl ?_
      refine Rn_ev srt249 38 rfl rfl rfl (op_irem (by decide)) ?_
      refine Rn_sq srt249 39 5 (pc' := 64) (ls' := [some (.ref 88), some (.int x1), some (.int x2), some (.int v2)]) (st' := [(.int (v2 + (ci 2))), (.ref 89), (.int (rm (((rm (s.1 89 0) (c8 24)) + (c8 24)) - (s.1 89 (v2 + (ci 1)).toNatClampNeg)) (c8 24)))]) (h1 := (SH, s)) rfl ?_
      split at hJ
      · cases hJ
      rename_i h6
      refine Rn_ev srt249 44 rfl rfl rfl (op_ia sh89 h6 (k := (v2 + (ci 2)).toNatClampNeg) rfl) ?_
      refine Rn_sq srt249 45 1 (pc' := (if (s.1 89 (v2 + (ci 2)).toNatClampNeg) ≤ (rm (((rm (s.1 89 0) (c8 24)) + (c8 24)) - (s.1 89 (v2 + (ci 1)).toNatClampNeg)) (c8 24)) then 75 else 68)) (ls' := [some (.ref 88), some (.int x1), some (.int x2), some (.int v2)]) (st' := []) (h1 := (SH, s)) rfl (Rn_if (fun h7 => ?_) (fun h7 => ?_))
      · rw [if_pos h7] at hJ
        exact Rn_weaken (a := [some (.ref 88), some (.int x1), some (.int x2), none]) (b := [some (.ref 88), some (.int x1), some (.int x2), some (.int v2)]) (And.intro rfl (And.intro rfl (And.intro rfl trivial))) rfl (k_X12_clerkAt_75 d hJ hC)
      · rw [if_neg h7] at hJ
        refine Rn_sq srt249 46 3 (pc' := 73) (ls' := [some (.ref 88), some (.int x1), some (.int x2), some (.int v2)]) (st' := [(.int v2), (.ref 89)]) (h1 := (SH, s)) rfl ?_
        split at hJ
        · cases hJ
        rename_i h8
        refine Rn_ev srt249 49 rfl rfl rfl (op_ia sh89 h8 (k := v2.toNatClampNeg) rfl) ?_
        rw [← Option.some.inj hJ] at hC
        have hC : r = (some (.int (s.1 89 v2.toNatClampNeg)), (SH, s)) := hC
        subst hC
        exact Rn_ret srt249 50 rfl rfl rfl
    · rw [if_neg h4] at hJ
      exact Rn_weaken (a := [some (.ref 88), some (.int x1), some (.int x2), none]) (b := [some (.ref 88), some (.int x1), some (.int x2), some (.int v2)]) (And.intro rfl (And.intro rfl (And.intro rfl trivial))) rfl (k_X12_clerkAt_75 d hJ hC)
def F_X12_clerkAt_L2 (s : mG) (x1 : Int32) (x2 : Int32) : Option (Int32) := whl (fun (v : (Int32 × Int32)) => F_X12_clerkAt_B2 s v.1 v.2) (x1, x2)
theorem k_X12_clerkAt_L2 {N : Nat} {xs : Nat → Int32} (d : Nat) {r : Option Value × mH} {s : mG} {x1 : Int32} {x2 : Int32} {τ : (Int32)} (hJ : F_X12_clerkAt_L2 s x1 x2 = some τ) (hC : (fun τ => r = (some (.int τ), (SH, s))) τ) : Rn N xs (d + 0) me249 2 [some (.ref 88), some (.int x1), some (.int x2), none] [] (SH, s) r :=
  whl_link (P := fun (v : (Int32 × Int32)) => Rn N xs (d + 0) me249 2 [some (.ref 88), some (.int v.1), some (.int v.2), none] [] (SH, s) r) (C := (C_X12_clerkAt_2 N xs s d r (fun τ => r = (some (.int τ), (SH, s))))) (fun v τ h1 h2 => k_X12_clerkAt_B2 d h1 h2) (fun _ h => h) (fun _ h => h) _ _ hJ hC
def F_X12_clerkAt (s : mG) (a1 : Int32) : Option (Int32) :=
  F_X12_clerkAt_L2 s a1 (ci 0)
set_option maxRecDepth 4000 in
theorem k_X12_clerkAt_r {N : Nat} {xs : Nat → Int32} (d : Nat) {r : Option Value × mH} {s : mG} {a1 : Int32} {τ : (Int32)} (hJ : F_X12_clerkAt s a1 = some τ) (hC : (fun τ => r = (some (.int τ), (SH, s))) τ) : Rn N xs (d + 0) me249 0 [some (.ref 88), some (.int a1), none, none] [] (SH, s) r := by
  unfold F_X12_clerkAt at hJ
  refine Rn_sq srt249 0 2 (pc' := 2) (ls' := [some (.ref 88), some (.int a1), some (.int (ci 0)), none]) (st' := []) (h1 := (SH, s)) rfl ?_
  exact (k_X12_clerkAt_L2 d hJ hC)
theorem k_X12_clerkAt {N : Nat} {xs : Nat → Int32} (d : Nat) {s : mG} {a1 : Int32} {τ : (Int32)} (hJ : F_X12_clerkAt s a1 = some τ) : Rn N xs (d + 0) me249 0 [some (.ref 88), some (.int a1), none, none] [] (SH, s) (some (.int τ), (SH, s)) := k_X12_clerkAt_r d hJ rfl
/-! IsHeInModel.hangsOn(III)I -/
theorem srt250 : m_srt mc250 = true := by decide +kernel
def F_X12_hangsOn_62 (x1 : Int32) (s : mG) : Option (Int32 × mG) :=
  match F_X12_keyOn s x1 with
  | none => none
  | some v13 =>
  if v13 = (ci (-1)) then
    some (x1, s)
  else
    some ((ci (-1)), s)
set_option maxRecDepth 4000 in
theorem k_X12_hangsOn_62 {N : Nat} {xs : Nat → Int32} (d : Nat) {r : Option Value × mH} {s : mG} {x1 : Int32} {τ : (Int32 × mG)} (hJ : F_X12_hangsOn_62 x1 s = some τ) (hC : (fun τ => r = (some (.int τ.1), (SH, τ.2))) τ) : Rn N xs (d + 1) me250 62 [some (.ref 88), some (.int x1), none, none, none, none] [] (SH, s) r := by
  unfold F_X12_hangsOn_62 at hJ
  refine Rn_sq srt250 34 2 (pc' := 64) (ls' := [some (.ref 88), some (.int x1), none, none, none, none]) (st' := [(.int x1), (.ref 88)]) (h1 := (SH, s)) rfl ?_
  split at hJ
  · cases hJ
  rename_i v13 h12
  refine Rn_call srt250 36 rfl rfl rfl ⟨Nat.le_of_ble_eq_true rfl, Nat.le_of_ble_eq_true rfl, rfl, Nat.le_of_ble_eq_true rfl⟩ (k_X12_keyOn (d) h12) (show Rn N xs (d + 1) me250 67 [some (.ref 88), some (.int x1), none, none, none, none] [(.int v13)] (SH, s) r from ?_)
  refine Rn_sq srt250 37 2 (pc' := (if v13 = (ci (-1)) then 71 else 75)) (ls' := [some (.ref 88), some (.int x1), none, none, none, none]) (st' := []) (h1 := (SH, s)) rfl (Rn_if (fun h14 => ?_) (fun h14 => ?_))
  · rw [if_pos h14] at hJ
    refine Rn_sq srt250 39 2 (pc' := 76) (ls' := [some (.ref 88), some (.int x1), none, none, none, none]) (st' := [(.int x1)]) (h1 := (SH, s)) rfl ?_
    rw [← Option.some.inj hJ] at hC
    have hC : r = (some (.int x1), (SH, s)) := hC
    subst hC
    exact Rn_ret srt250 42 rfl rfl rfl
  · rw [if_neg h14] at hJ
    refine Rn_sq srt250 41 1 (pc' := 76) (ls' := [some (.ref 88), some (.int x1), none, none, none, none]) (st' := [(.int (ci (-1)))]) (h1 := (SH, s)) rfl ?_
    rw [← Option.some.inj hJ] at hC
    have hC : r = (some (.int (ci (-1))), (SH, s)) := hC
    subst hC
    exact Rn_ret srt250 42 rfl rfl rfl
def F_X12_hangsOn_29 (x1 : Int32) (y0 : Int32) (s : mG) : Option (Int32 × mG) :=
  if (s.1 89 112) = 0 then none else
  let v10 : Int32 := (rm (x1 + (ci 1)) (s.1 89 112))
  if y0 = 0 then
    F_X12_hangsOn_62 x1 s
  else
    match F_X12_keyOn s v10 with
    | none => none
    | some v16 =>
    if v16 = (ci (-1)) then
      some (v10, s)
    else
      F_X12_hangsOn_62 x1 s
set_option maxRecDepth 4000 in
theorem k_X12_hangsOn_29 {N : Nat} {xs : Nat → Int32} (d : Nat) {r : Option Value × mH} {s : mG} {x1 : Int32} {y0 : Int32} {τ : (Int32 × mG)} (hJ : F_X12_hangsOn_29 x1 y0 s = some τ) (hC : (fun τ => r = (some (.int τ.1), (SH, τ.2))) τ) : Rn N xs (d + 1) me250 29 [some (.ref 88), some (.int x1), none, none, none, none] [(.int y0)] (SH, s) r := by
  unfold F_X12_hangsOn_29 at hJ
  refine Rn_sq srt250 15 7 (pc' := 40) (ls' := [some (.ref 88), some (.int x1), none, none, some (.int y0), none]) (st' := [(.int (c8 112)), (.ref 89), (.int (x1 + (ci 1)))]) (h1 := (SH, s)) rfl ?_
  refine Rn_ev srt250 22 rfl rfl rfl (op_ia sh89 (by decide) (k := 112) rfl) ?_
  split at hJ
  · cases hJ
  rename_i h9
  refine Rn_ev srt250 23 rfl rfl rfl (op_irem h9) ?_
  extract_lets v10 at hJ
  refine Rn_sq srt250 24 3 (pc' := (if y0 = 0 then 62 else 49)) (ls' := [some (.ref 88), some (.int x1), none, none, some (.int y0), some (.int v10)]) (st' := []) (h1 := (SH, s)) rfl (Rn_if (fun h11 => ?_) (fun h11 => ?_))
  · rw [if_pos h11] at hJ
    exact Rn_weaken (a := [some (.ref 88), some (.int x1), none, none, none, none]) (b := [some (.ref 88), some (.int x1), none, none, some (.int y0), some (.int v10)]) (And.intro rfl (And.intro rfl trivial)) rfl (k_X12_hangsOn_62 d hJ hC)
  · rw [if_neg h11] at hJ
    refine Rn_sq srt250 27 2 (pc' := 52) (ls' := [some (.ref 88), some (.int x1), none, none, some (.int y0), some (.int v10)]) (st' := [(.int v10), (.ref 88)]) (h1 := (SH, s)) rfl ?_
    split at hJ
    · cases hJ
    rename_i v16 h15
    refine Rn_call srt250 29 rfl rfl rfl ⟨Nat.le_of_ble_eq_true rfl, Nat.le_of_ble_eq_true rfl, rfl, Nat.le_of_ble_eq_true rfl⟩ (k_X12_keyOn (d) h15) (show Rn N xs (d + 1) me250 55 [some (.ref 88), some (.int x1), none, none, some (.int y0), some (.int v10)] [(.int v16)] (SH, s) r from ?_)
    refine Rn_sq srt250 30 2 (pc' := (if v16 = (ci (-1)) then 59 else 62)) (ls' := [some (.ref 88), some (.int x1), none, none, some (.int y0), some (.int v10)]) (st' := []) (h1 := (SH, s)) rfl (Rn_if (fun h17 => ?_) (fun h17 => ?_))
    · rw [if_pos h17] at hJ
      refine Rn_sq srt250 32 1 (pc' := 61) (ls' := [some (.ref 88), some (.int x1), none, none, some (.int y0), some (.int v10)]) (st' := [(.int v10)]) (h1 := (SH, s)) rfl ?_
      rw [← Option.some.inj hJ] at hC
      have hC : r = (some (.int v10), (SH, s)) := hC
      subst hC
      exact Rn_ret srt250 33 rfl rfl rfl
    · rw [if_neg h17] at hJ
      exact Rn_weaken (a := [some (.ref 88), some (.int x1), none, none, none, none]) (b := [some (.ref 88), some (.int x1), none, none, some (.int y0), some (.int v10)]) (And.intro rfl (And.intro rfl trivial)) rfl (k_X12_hangsOn_62 d hJ hC)
def F_X12_hangsOn (a1 : Int32) (a2 : Int32) (a3 : Int32) (s : mG) : Option (Int32 × mG) :=
  match F_X12_draw (c16 1000) s with
  | none => none
  | some (v3, s2) =>
  if a2 ≤ v3 then
    match F_X12_draw (c16 1000) s2 with
    | none => none
    | some (v7, s6) =>
    if a3 ≤ v7 then
      F_X12_hangsOn_29 a1 (ci 0) s6
    else
      F_X12_hangsOn_29 a1 (ci 1) s6
  else
    some ((ci (-1)), s2)
set_option maxRecDepth 4000 in
theorem k_X12_hangsOn_r {N : Nat} {xs : Nat → Int32} (d : Nat) {r : Option Value × mH} {s : mG} {a1 : Int32} {a2 : Int32} {a3 : Int32} {τ : (Int32 × mG)} (hJ : F_X12_hangsOn a1 a2 a3 s = some τ) (hC : (fun τ => r = (some (.int τ.1), (SH, τ.2))) τ) : Rn N xs (d + 1) me250 0 [some (.ref 88), some (.int a1), some (.int a2), some (.int a3), none, none] [] (SH, s) r := by
  unfold F_X12_hangsOn at hJ
  refine Rn_sq srt250 0 2 (pc' := 4) (ls' := [some (.ref 88), some (.int a1), some (.int a2), some (.int a3), none, none]) (st' := [(.int (c16 1000)), (.ref 88)]) (h1 := (SH, s)) rfl ?_
  split at hJ
  · cases hJ
  rename_i v3 s2 h1
  refine Rn_call srt250 2 rfl rfl rfl ⟨Nat.le_of_ble_eq_true rfl, Nat.le_of_ble_eq_true rfl, rfl, Nat.le_of_ble_eq_true rfl⟩ (k_X12_draw (d) h1) (show Rn N xs (d + 1) me250 7 [some (.ref 88), some (.int a1), some (.int a2), some (.int a3), none, none] [(.int v3)] (SH, s2) r from ?_)
  refine Rn_sq srt250 3 2 (pc' := (if a2 ≤ v3 then 13 else 11)) (ls' := [some (.ref 88), some (.int a1), some (.int a2), some (.int a3), none, none]) (st' := []) (h1 := (SH, s2)) rfl (Rn_if (fun h4 => ?_) (fun h4 => ?_))
  · rw [if_pos h4] at hJ
    refine Rn_sq srt250 7 2 (pc' := 17) (ls' := [some (.ref 88), some (.int a1), some (.int a2), some (.int a3), none, none]) (st' := [(.int (c16 1000)), (.ref 88)]) (h1 := (SH, s2)) rfl ?_
    split at hJ
    · cases hJ
    rename_i v7 s6 h5
    refine Rn_call srt250 9 rfl rfl rfl ⟨Nat.le_of_ble_eq_true rfl, Nat.le_of_ble_eq_true rfl, rfl, Nat.le_of_ble_eq_true rfl⟩ (k_X12_draw (d) h5) (show Rn N xs (d + 1) me250 20 [some (.ref 88), some (.int a1), some (.int a2), some (.int a3), none, none] [(.int v7)] (SH, s6) r from ?_)
    refine Rn_sq srt250 10 2 (pc' := (if a3 ≤ v7 then 28 else 24)) (ls' := [some (.ref 88), some (.int a1), some (.int a2), some (.int a3), none, none]) (st' := []) (h1 := (SH, s6)) rfl (Rn_if (fun h8 => ?_) (fun h8 => ?_))
    · rw [if_pos h8] at hJ
      refine Rn_sq srt250 14 1 (pc' := 29) (ls' := [some (.ref 88), some (.int a1), some (.int a2), some (.int a3), none, none]) (st' := [(.int (ci 0))]) (h1 := (SH, s6)) rfl ?_
      exact Rn_weaken (a := [some (.ref 88), some (.int a1), none, none, none, none]) (b := [some (.ref 88), some (.int a1), some (.int a2), some (.int a3), none, none]) (And.intro rfl (And.intro rfl trivial)) rfl (k_X12_hangsOn_29 d hJ hC)
    · rw [if_neg h8] at hJ
      refine Rn_sq srt250 12 2 (pc' := 29) (ls' := [some (.ref 88), some (.int a1), some (.int a2), some (.int a3), none, none]) (st' := [(.int (ci 1))]) (h1 := (SH, s6)) rfl ?_
      exact Rn_weaken (a := [some (.ref 88), some (.int a1), none, none, none, none]) (b := [some (.ref 88), some (.int a1), some (.int a2), some (.int a3), none, none]) (And.intro rfl (And.intro rfl trivial)) rfl (k_X12_hangsOn_29 d hJ hC)
  · rw [if_neg h4] at hJ
    refine Rn_sq srt250 5 1 (pc' := 12) (ls' := [some (.ref 88), some (.int a1), some (.int a2), some (.int a3), none, none]) (st' := [(.int (ci (-1)))]) (h1 := (SH, s2)) rfl ?_
    rw [← Option.some.inj hJ] at hC
    have hC : r = (some (.int (ci (-1))), (SH, s2)) := hC
    subst hC
    exact Rn_ret srt250 6 rfl rfl rfl
theorem k_X12_hangsOn {N : Nat} {xs : Nat → Int32} (d : Nat) {s : mG} {a1 : Int32} {a2 : Int32} {a3 : Int32} {τ : (Int32 × mG)} (hJ : F_X12_hangsOn a1 a2 a3 s = some τ) : Rn N xs (d + 1) me250 0 [some (.ref 88), some (.int a1), some (.int a2), some (.int a3), none, none] [] (SH, s) (some (.int τ.1), (SH, τ.2)) := k_X12_hangsOn_r d hJ rfl
/-! IsHeInModel.isMoved(I)Z -/
theorem srt251 : m_srt mc251 = true := by decide +kernel
def F_X12_isMoved_147 (x1 : Int32) (x7 : Int32) (y1 : Int32) (s : mG) : Option (Int32 × mG) :=
  match F_X12_clerkAt s x7 with
  | none => none
  | some v35 =>
  match F_X12_notes y1 x1 x7 v35 s with
  | none => none
  | some s37 =>
  some ((ci 1), s37)
set_option maxRecDepth 4000 in
theorem k_X12_isMoved_147 {N : Nat} {xs : Nat → Int32} (d : Nat) {r : Option Value × mH} {s : mG} {x1 : Int32} {x7 : Int32} {y1 : Int32} {τ : (Int32 × mG)} (hJ : F_X12_isMoved_147 x1 x7 y1 s = some τ) (hC : (fun τ => r = (some (.int τ.1), (SH, τ.2))) τ) : Rn N xs (d + 5) me251 147 [some (.ref 88), some (.int x1), none, none, none, none, none, some (.int x7)] [(.int y1), (.ref 88)] (SH, s) r := by
  unfold F_X12_isMoved_147 at hJ
  refine Rn_sq srt251 84 4 (pc' := 153) (ls' := [some (.ref 88), some (.int x1), none, none, none, none, none, some (.int x7)]) (st' := [(.int x7), (.ref 88), (.int x7), (.int x1), (.int y1), (.ref 88)]) (h1 := (SH, s)) rfl ?_
  split at hJ
  · cases hJ
  rename_i v35 h34
  refine Rn_call srt251 88 rfl rfl rfl ⟨Nat.le_of_ble_eq_true rfl, Nat.le_of_ble_eq_true rfl, rfl, Nat.le_of_ble_eq_true rfl⟩ (k_X12_clerkAt (d + 4) h34) (show Rn N xs (d + 5) me251 156 [some (.ref 88), some (.int x1), none, none, none, none, none, some (.int x7)] [(.int v35), (.int x7), (.int x1), (.int y1), (.ref 88)] (SH, s) r from ?_)
  split at hJ
  · cases hJ
  rename_i s37 h36
  refine Rn_call srt251 89 rfl rfl rfl ⟨Nat.le_of_ble_eq_true rfl, Nat.le_of_ble_eq_true rfl, rfl, Nat.le_of_ble_eq_true rfl⟩ (k_X12_notes (d + 4) h36) (show Rn N xs (d + 5) me251 159 [some (.ref 88), some (.int x1), none, none, none, none, none, some (.int x7)] [] (SH, s37) r from ?_)
  refine Rn_sq srt251 90 1 (pc' := 160) (ls' := [some (.ref 88), some (.int x1), none, none, none, none, none, some (.int x7)]) (st' := [(.int (ci 1))]) (h1 := (SH, s37)) rfl ?_
  rw [← Option.some.inj hJ] at hC
  have hC : r = (some (.int (ci 1)), (SH, s37)) := hC
  subst hC
  exact Rn_ret srt251 91 rfl rfl (if_pos (by decide))
def F_X12_isMoved_136 (x1 : Int32) (x2 : Int32) (x7 : Int32) (y1 : Int32) (y2 : Int32) (s : mG) : Option (Int32 × mG) :=
  if y1 < 0 ∨ 1894 ≤ y1.toNatClampNeg then none else
  let s32 : mG := (mu s.1 89 y1.toNatClampNeg y2, s.2)
  if x2 = 0 then
    F_X12_isMoved_147 x1 x7 (ci 0) s32
  else
    F_X12_isMoved_147 x1 x7 (ci 1) s32
set_option maxRecDepth 4000 in
theorem k_X12_isMoved_136 {N : Nat} {xs : Nat → Int32} (d : Nat) {r : Option Value × mH} {s : mG} {x1 : Int32} {x2 : Int32} {x7 : Int32} {y1 : Int32} {y2 : Int32} {τ : (Int32 × mG)} (hJ : F_X12_isMoved_136 x1 x2 x7 y1 y2 s = some τ) (hC : (fun τ => r = (some (.int τ.1), (SH, τ.2))) τ) : Rn N xs (d + 5) me251 136 [some (.ref 88), some (.int x1), some (.int x2), none, none, none, none, some (.int x7)] [(.int y2), (.int y1), (.ref 89)] (SH, s) r := by
  unfold F_X12_isMoved_136 at hJ
  split at hJ
  · cases hJ
  rename_i h31
  extract_lets s32 at hJ
  refine Rn_ev srt251 77 rfl rfl rfl (op_ias sh89 h31 (k := y1.toNatClampNeg) rfl) ?_
  refine Rn_sq srt251 78 3 (pc' := (if x2 = 0 then 146 else 142)) (ls' := [some (.ref 88), some (.int x1), some (.int x2), none, none, none, none, some (.int x7)]) (st' := [(.ref 88)]) (h1 := (SH, s32)) rfl (Rn_if (fun h33 => ?_) (fun h33 => ?_))
  · rw [if_pos h33] at hJ
    refine Rn_sq srt251 83 1 (pc' := 147) (ls' := [some (.ref 88), some (.int x1), some (.int x2), none, none, none, none, some (.int x7)]) (st' := [(.int (ci 0)), (.ref 88)]) (h1 := (SH, s32)) rfl ?_
    exact Rn_weaken (a := [some (.ref 88), some (.int x1), none, none, none, none, none, some (.int x7)]) (b := [some (.ref 88), some (.int x1), some (.int x2), none, none, none, none, some (.int x7)]) (And.intro rfl (And.intro rfl (And.intro rfl trivial))) rfl (k_X12_isMoved_147 d hJ hC)
  · rw [if_neg h33] at hJ
    refine Rn_sq srt251 81 2 (pc' := 147) (ls' := [some (.ref 88), some (.int x1), some (.int x2), none, none, none, none, some (.int x7)]) (st' := [(.int (ci 1)), (.ref 88)]) (h1 := (SH, s32)) rfl ?_
    exact Rn_weaken (a := [some (.ref 88), some (.int x1), none, none, none, none, none, some (.int x7)]) (b := [some (.ref 88), some (.int x1), some (.int x2), none, none, none, none, some (.int x7)]) (And.intro rfl (And.intro rfl (And.intro rfl trivial))) rfl (k_X12_isMoved_147 d hJ hC)
def F_X12_isMoved_110 (x1 : Int32) (x2 : Int32) (x5 : Int32) (x6 : Int32) (x7 : Int32) (y1 : Int32) (y2 : Int32) (s : mG) : Option (Int32 × mG) :=
  if y1 < 0 ∨ 1894 ≤ y1.toNatClampNeg then none else
  let s26 : mG := (mu s.1 89 y1.toNatClampNeg y2, s.2)
  if x2 = 0 then
    match F_X12_hangsOn x1 x5 x6 s26 with
    | none => none
    | some (v30, s29) =>
    F_X12_isMoved_136 x1 x2 x7 ((c8 15) + x1) v30 s29
  else
    F_X12_isMoved_136 x1 x2 x7 ((c8 15) + x1) (ci (-1)) s26
set_option maxRecDepth 4000 in
theorem k_X12_isMoved_110 {N : Nat} {xs : Nat → Int32} (d : Nat) {r : Option Value × mH} {s : mG} {x1 : Int32} {x2 : Int32} {x5 : Int32} {x6 : Int32} {x7 : Int32} {y1 : Int32} {y2 : Int32} {τ : (Int32 × mG)} (hJ : F_X12_isMoved_110 x1 x2 x5 x6 x7 y1 y2 s = some τ) (hC : (fun τ => r = (some (.int τ.1), (SH, τ.2))) τ) : Rn N xs (d + 5) me251 110 [some (.ref 88), some (.int x1), some (.int x2), none, none, some (.int x5), some (.int x6), some (.int x7)] [(.int y2), (.int y1), (.ref 89)] (SH, s) r := by
  unfold F_X12_isMoved_110 at hJ
  split at hJ
  · cases hJ
  rename_i h25
  extract_lets s26 at hJ
  refine Rn_ev srt251 62 rfl rfl rfl (op_ias sh89 h25 (k := y1.toNatClampNeg) rfl) ?_
  refine Rn_sq srt251 63 7 (pc' := (if x2 = 0 then 127 else 123)) (ls' := [some (.ref 88), some (.int x1), some (.int x2), none, none, some (.int x5), some (.int x6), some (.int x7)]) (st' := [(.int ((c8 15) + x1)), (.ref 89)]) (h1 := (SH, s26)) rfl (Rn_if (fun h27 => ?_) (fun h27 => ?_))
  · rw [if_pos h27] at hJ
    refine Rn_sq srt251 72 4 (pc' := 133) (ls' := [some (.ref 88), some (.int x1), some (.int x2), none, none, some (.int x5), some (.int x6), some (.int x7)]) (st' := [(.int x6), (.int x5), (.int x1), (.ref 88), (.int ((c8 15) + x1)), (.ref 89)]) (h1 := (SH, s26)) rfl ?_
    split at hJ
    · cases hJ
    rename_i v30 s29 h28
    refine Rn_call srt251 76 rfl rfl rfl ⟨Nat.le_of_ble_eq_true rfl, Nat.le_of_ble_eq_true rfl, rfl, Nat.le_of_ble_eq_true rfl⟩ (k_X12_hangsOn (d + 3) h28) (show Rn N xs (d + 5) me251 136 [some (.ref 88), some (.int x1), some (.int x2), none, none, some (.int x5), some (.int x6), some (.int x7)] [(.int v30), (.int ((c8 15) + x1)), (.ref 89)] (SH, s29) r from ?_)
    exact Rn_weaken (a := [some (.ref 88), some (.int x1), some (.int x2), none, none, none, none, some (.int x7)]) (b := [some (.ref 88), some (.int x1), some (.int x2), none, none, some (.int x5), some (.int x6), some (.int x7)]) (And.intro rfl (And.intro rfl (And.intro rfl (And.intro rfl trivial)))) rfl (k_X12_isMoved_136 d hJ hC)
  · rw [if_neg h27] at hJ
    refine Rn_sq srt251 70 2 (pc' := 136) (ls' := [some (.ref 88), some (.int x1), some (.int x2), none, none, some (.int x5), some (.int x6), some (.int x7)]) (st' := [(.int (ci (-1))), (.int ((c8 15) + x1)), (.ref 89)]) (h1 := (SH, s26)) rfl ?_
    exact Rn_weaken (a := [some (.ref 88), some (.int x1), some (.int x2), none, none, none, none, some (.int x7)]) (b := [some (.ref 88), some (.int x1), some (.int x2), none, none, some (.int x5), some (.int x6), some (.int x7)]) (And.intro rfl (And.intro rfl (And.intro rfl (And.intro rfl trivial)))) rfl (k_X12_isMoved_136 d hJ hC)
def F_X12_isMoved_92 (x1 : Int32) (x2 : Int32) (x5 : Int32) (x6 : Int32) (y0 : Int32) (s : mG) : Option (Int32 × mG) :=
  if x2 = 0 then
    F_X12_isMoved_110 x1 x2 x5 x6 y0 ((ci 3) + x1) (ci 1) s
  else
    F_X12_isMoved_110 x1 x2 x5 x6 y0 ((ci 3) + x1) (ci 0) s
set_option maxRecDepth 4000 in
theorem k_X12_isMoved_92 {N : Nat} {xs : Nat → Int32} (d : Nat) {r : Option Value × mH} {s : mG} {x1 : Int32} {x2 : Int32} {x5 : Int32} {x6 : Int32} {y0 : Int32} {τ : (Int32 × mG)} (hJ : F_X12_isMoved_92 x1 x2 x5 x6 y0 s = some τ) (hC : (fun τ => r = (some (.int τ.1), (SH, τ.2))) τ) : Rn N xs (d + 5) me251 92 [some (.ref 88), some (.int x1), some (.int x2), none, none, some (.int x5), some (.int x6), none] [(.int y0)] (SH, s) r := by
  unfold F_X12_isMoved_92 at hJ
  refine Rn_sq srt251 51 8 (pc' := (if x2 = 0 then 109 else 105)) (ls' := [some (.ref 88), some (.int x1), some (.int x2), none, none, some (.int x5), some (.int x6), some (.int y0)]) (st' := [(.int ((ci 3) + x1)), (.ref 89)]) (h1 := (SH, s)) rfl (Rn_if (fun h24 => ?_) (fun h24 => ?_))
  · rw [if_pos h24] at hJ
    refine Rn_sq srt251 61 1 (pc' := 110) (ls' := [some (.ref 88), some (.int x1), some (.int x2), none, none, some (.int x5), some (.int x6), some (.int y0)]) (st' := [(.int (ci 1)), (.int ((ci 3) + x1)), (.ref 89)]) (h1 := (SH, s)) rfl ?_
    exact (k_X12_isMoved_110 d hJ hC)
  · rw [if_neg h24] at hJ
    refine Rn_sq srt251 59 2 (pc' := 110) (ls' := [some (.ref 88), some (.int x1), some (.int x2), none, none, some (.int x5), some (.int x6), some (.int y0)]) (st' := [(.int (ci 0)), (.int ((ci 3) + x1)), (.ref 89)]) (h1 := (SH, s)) rfl ?_
    exact (k_X12_isMoved_110 d hJ hC)
def F_X12_isMoved_30 (x1 : Int32) (x2 : Int32) (y1 : Int32) (s : mG) : Option (Int32 × mG) :=
  match F_X12_saysNow y1 x1 s with
  | none => none
  | some (v6, s5) =>
  match F_X12_saysNow (c8 24) x1 s5 with
  | none => none
  | some (v9, s8) =>
  match F_X12_saysNow (c8 22) x1 s8 with
  | none => none
  | some (v12, s11) =>
  match F_X12_saysNow (c8 23) x1 s11 with
  | none => none
  | some (v15, s14) =>
  match F_X12_draw (c16 1000) s14 with
  | none => none
  | some (v18, s17) =>
  if v18 < v6 then
    match F_X12_draw (c16 1000) s17 with
    | none => none
    | some (v22, s21) =>
    if v9 ≤ v22 then
      F_X12_isMoved_92 x1 x2 v12 v15 (ci 1) s21
    else
      F_X12_isMoved_92 x1 x2 v12 v15 (ci 0) s21
  else
    some ((ci 0), s17)
set_option maxRecDepth 4000 in
theorem k_X12_isMoved_30 {N : Nat} {xs : Nat → Int32} (d : Nat) {r : Option Value × mH} {s : mG} {x1 : Int32} {x2 : Int32} {y1 : Int32} {τ : (Int32 × mG)} (hJ : F_X12_isMoved_30 x1 x2 y1 s = some τ) (hC : (fun τ => r = (some (.int τ.1), (SH, τ.2))) τ) : Rn N xs (d + 5) me251 30 [some (.ref 88), some (.int x1), some (.int x2), none, none, none, none, none] [(.int y1), (.ref 88)] (SH, s) r := by
  unfold F_X12_isMoved_30 at hJ
  refine Rn_sq srt251 18 1 (pc' := 31) (ls' := [some (.ref 88), some (.int x1), some (.int x2), none, none, none, none, none]) (st' := [(.int x1), (.int y1), (.ref 88)]) (h1 := (SH, s)) rfl ?_
  split at hJ
  · cases hJ
  rename_i v6 s5 h4
  refine Rn_call srt251 19 rfl rfl rfl ⟨Nat.le_of_ble_eq_true rfl, Nat.le_of_ble_eq_true rfl, rfl, Nat.le_of_ble_eq_true rfl⟩ (k_X12_saysNow (d) h4) (show Rn N xs (d + 5) me251 34 [some (.ref 88), some (.int x1), some (.int x2), none, none, none, none, none] [(.int v6)] (SH, s5) r from ?_)
  refine Rn_sq srt251 20 4 (pc' := 39) (ls' := [some (.ref 88), some (.int x1), some (.int x2), some (.int v6), none, none, none, none]) (st' := [(.int x1), (.int (c8 24)), (.ref 88)]) (h1 := (SH, s5)) rfl ?_
  split at hJ
  · cases hJ
  rename_i v9 s8 h7
  refine Rn_call srt251 24 rfl rfl rfl ⟨Nat.le_of_ble_eq_true rfl, Nat.le_of_ble_eq_true rfl, rfl, Nat.le_of_ble_eq_true rfl⟩ (k_X12_saysNow (d) h7) (show Rn N xs (d + 5) me251 42 [some (.ref 88), some (.int x1), some (.int x2), some (.int v6), none, none, none, none] [(.int v9)] (SH, s8) r from ?_)
  refine Rn_sq srt251 25 4 (pc' := 48) (ls' := [some (.ref 88), some (.int x1), some (.int x2), some (.int v6), some (.int v9), none, none, none]) (st' := [(.int x1), (.int (c8 22)), (.ref 88)]) (h1 := (SH, s8)) rfl ?_
  split at hJ
  · cases hJ
  rename_i v12 s11 h10
  refine Rn_call srt251 29 rfl rfl rfl ⟨Nat.le_of_ble_eq_true rfl, Nat.le_of_ble_eq_true rfl, rfl, Nat.le_of_ble_eq_true rfl⟩ (k_X12_saysNow (d) h10) (show Rn N xs (d + 5) me251 51 [some (.ref 88), some (.int x1), some (.int x2), some (.int v6), some (.int v9), none, none, none] [(.int v12)] (SH, s11) r from ?_)
  refine Rn_sq srt251 30 4 (pc' := 57) (ls' := [some (.ref 88), some (.int x1), some (.int x2), some (.int v6), some (.int v9), some (.int v12), none, none]) (st' := [(.int x1), (.int (c8 23)), (.ref 88)]) (h1 := (SH, s11)) rfl ?_
  split at hJ
  · cases hJ
  rename_i v15 s14 h13
  refine Rn_call srt251 34 rfl rfl rfl ⟨Nat.le_of_ble_eq_true rfl, Nat.le_of_ble_eq_true rfl, rfl, Nat.le_of_ble_eq_true rfl⟩ (k_X12_saysNow (d) h13) (show Rn N xs (d + 5) me251 60 [some (.ref 88), some (.int x1), some (.int x2), some (.int v6), some (.int v9), some (.int v12), none, none] [(.int v15)] (SH, s14) r from ?_)
  refine Rn_sq srt251 35 3 (pc' := 66) (ls' := [some (.ref 88), some (.int x1), some (.int x2), some (.int v6), some (.int v9), some (.int v12), some (.int v15), none]) (st' := [(.int (c16 1000)), (.ref 88)]) (h1 := (SH, s14)) rfl ?_
  split at hJ
  · cases hJ
  rename_i v18 s17 h16
  refine Rn_call srt251 38 rfl rfl rfl ⟨Nat.le_of_ble_eq_true rfl, Nat.le_of_ble_eq_true rfl, rfl, Nat.le_of_ble_eq_true rfl⟩ (k_X12_draw (d + 4) h16) (show Rn N xs (d + 5) me251 69 [some (.ref 88), some (.int x1), some (.int x2), some (.int v6), some (.int v9), some (.int v12), some (.int v15), none] [(.int v18)] (SH, s17) r from ?_)
  refine Rn_sq srt251 39 2 (pc' := (if v18 < v6 then 75 else 73)) (ls' := [some (.ref 88), some (.int x1), some (.int x2), some (.int v6), some (.int v9), some (.int v12), some (.int v15), none]) (st' := []) (h1 := (SH, s17)) rfl (Rn_if (fun h19 => ?_) (fun h19 => ?_))
  · rw [if_pos h19] at hJ
    refine Rn_sq srt251 43 2 (pc' := 79) (ls' := [some (.ref 88), some (.int x1), some (.int x2), some (.int v6), some (.int v9), some (.int v12), some (.int v15), none]) (st' := [(.int (c16 1000)), (.ref 88)]) (h1 := (SH, s17)) rfl ?_
    split at hJ
    · cases hJ
    rename_i v22 s21 h20
    refine Rn_call srt251 45 rfl rfl rfl ⟨Nat.le_of_ble_eq_true rfl, Nat.le_of_ble_eq_true rfl, rfl, Nat.le_of_ble_eq_true rfl⟩ (k_X12_draw (d + 4) h20) (show Rn N xs (d + 5) me251 82 [some (.ref 88), some (.int x1), some (.int x2), some (.int v6), some (.int v9), some (.int v12), some (.int v15), none] [(.int v22)] (SH, s21) r from ?_)
    refine Rn_sq srt251 46 2 (pc' := (if v9 ≤ v22 then 91 else 87)) (ls' := [some (.ref 88), some (.int x1), some (.int x2), some (.int v6), some (.int v9), some (.int v12), some (.int v15), none]) (st' := []) (h1 := (SH, s21)) rfl (Rn_if (fun h23 => ?_) (fun h23 => ?_))
    · rw [if_pos h23] at hJ
      refine Rn_sq srt251 50 1 (pc' := 92) (ls' := [some (.ref 88), some (.int x1), some (.int x2), some (.int v6), some (.int v9), some (.int v12), some (.int v15), none]) (st' := [(.int (ci 1))]) (h1 := (SH, s21)) rfl ?_
      exact Rn_weaken (a := [some (.ref 88), some (.int x1), some (.int x2), none, none, some (.int v12), some (.int v15), none]) (b := [some (.ref 88), some (.int x1), some (.int x2), some (.int v6), some (.int v9), some (.int v12), some (.int v15), none]) (And.intro rfl (And.intro rfl (And.intro rfl (And.intro rfl (And.intro rfl trivial))))) rfl (k_X12_isMoved_92 d hJ hC)
    · rw [if_neg h23] at hJ
      refine Rn_sq srt251 48 2 (pc' := 92) (ls' := [some (.ref 88), some (.int x1), some (.int x2), some (.int v6), some (.int v9), some (.int v12), some (.int v15), none]) (st' := [(.int (ci 0))]) (h1 := (SH, s21)) rfl ?_
      exact Rn_weaken (a := [some (.ref 88), some (.int x1), some (.int x2), none, none, some (.int v12), some (.int v15), none]) (b := [some (.ref 88), some (.int x1), some (.int x2), some (.int v6), some (.int v9), some (.int v12), some (.int v15), none]) (And.intro rfl (And.intro rfl (And.intro rfl (And.intro rfl (And.intro rfl trivial))))) rfl (k_X12_isMoved_92 d hJ hC)
  · rw [if_neg h19] at hJ
    refine Rn_sq srt251 41 1 (pc' := 74) (ls' := [some (.ref 88), some (.int x1), some (.int x2), some (.int v6), some (.int v9), some (.int v12), some (.int v15), none]) (st' := [(.int (ci 0))]) (h1 := (SH, s17)) rfl ?_
    rw [← Option.some.inj hJ] at hC
    have hC : r = (some (.int (ci 0)), (SH, s17)) := hC
    subst hC
    exact Rn_ret srt251 42 rfl rfl (if_pos (by decide))
def F_X12_isMoved_17 (x1 : Int32) (y0 : Int32) (s : mG) : Option (Int32 × mG) :=
  if y0 = 0 then
    F_X12_isMoved_30 x1 y0 (c8 20) s
  else
    F_X12_isMoved_30 x1 y0 (c8 21) s
set_option maxRecDepth 4000 in
theorem k_X12_isMoved_17 {N : Nat} {xs : Nat → Int32} (d : Nat) {r : Option Value × mH} {s : mG} {x1 : Int32} {y0 : Int32} {τ : (Int32 × mG)} (hJ : F_X12_isMoved_17 x1 y0 s = some τ) (hC : (fun τ => r = (some (.int τ.1), (SH, τ.2))) τ) : Rn N xs (d + 5) me251 17 [some (.ref 88), some (.int x1), none, none, none, none, none, none] [(.int y0)] (SH, s) r := by
  unfold F_X12_isMoved_17 at hJ
  refine Rn_sq srt251 11 4 (pc' := (if y0 = 0 then 28 else 23)) (ls' := [some (.ref 88), some (.int x1), some (.int y0), none, none, none, none, none]) (st' := [(.ref 88)]) (h1 := (SH, s)) rfl (Rn_if (fun h3 => ?_) (fun h3 => ?_))
  · rw [if_pos h3] at hJ
    refine Rn_sq srt251 17 1 (pc' := 30) (ls' := [some (.ref 88), some (.int x1), some (.int y0), none, none, none, none, none]) (st' := [(.int (c8 20)), (.ref 88)]) (h1 := (SH, s)) rfl ?_
    exact (k_X12_isMoved_30 d hJ hC)
  · rw [if_neg h3] at hJ
    refine Rn_sq srt251 15 2 (pc' := 30) (ls' := [some (.ref 88), some (.int x1), some (.int y0), none, none, none, none, none]) (st' := [(.int (c8 21)), (.ref 88)]) (h1 := (SH, s)) rfl ?_
    exact (k_X12_isMoved_30 d hJ hC)
def F_X12_isMoved (a1 : Int32) (s : mG) : Option (Int32 × mG) :=
  if ((ci 3) + a1) < 0 ∨ 1894 ≤ ((ci 3) + a1).toNatClampNeg then none else
  if (s.1 89 ((ci 3) + a1).toNatClampNeg) = (ci 1) then
    F_X12_isMoved_17 a1 (ci 1) s
  else
    F_X12_isMoved_17 a1 (ci 0) s
set_option maxRecDepth 4000 in
theorem k_X12_isMoved_r {N : Nat} {xs : Nat → Int32} (d : Nat) {r : Option Value × mH} {s : mG} {a1 : Int32} {τ : (Int32 × mG)} (hJ : F_X12_isMoved a1 s = some τ) (hC : (fun τ => r = (some (.int τ.1), (SH, τ.2))) τ) : Rn N xs (d + 5) me251 0 [some (.ref 88), some (.int a1), none, none, none, none, none, none] [] (SH, s) r := by
  unfold F_X12_isMoved at hJ
  refine Rn_sq srt251 0 5 (pc' := 7) (ls' := [some (.ref 88), some (.int a1), none, none, none, none, none, none]) (st' := [(.int ((ci 3) + a1)), (.ref 89)]) (h1 := (SH, s)) rfl ?_
  split at hJ
  · cases hJ
  rename_i h1
  refine Rn_ev srt251 5 rfl rfl rfl (op_ia sh89 h1 (k := ((ci 3) + a1).toNatClampNeg) rfl) ?_
  refine Rn_sq srt251 6 2 (pc' := (if (s.1 89 ((ci 3) + a1).toNatClampNeg) = (ci 1) then 12 else 16)) (ls' := [some (.ref 88), some (.int a1), none, none, none, none, none, none]) (st' := []) (h1 := (SH, s)) rfl (Rn_if (fun h2 => ?_) (fun h2 => ?_))
  · rw [if_pos h2] at hJ
    refine Rn_sq srt251 8 2 (pc' := 17) (ls' := [some (.ref 88), some (.int a1), none, none, none, none, none, none]) (st' := [(.int (ci 1))]) (h1 := (SH, s)) rfl ?_
    exact (k_X12_isMoved_17 d hJ hC)
  · rw [if_neg h2] at hJ
    refine Rn_sq srt251 10 1 (pc' := 17) (ls' := [some (.ref 88), some (.int a1), none, none, none, none, none, none]) (st' := [(.int (ci 0))]) (h1 := (SH, s)) rfl ?_
    exact (k_X12_isMoved_17 d hJ hC)
theorem k_X12_isMoved {N : Nat} {xs : Nat → Int32} (d : Nat) {s : mG} {a1 : Int32} {τ : (Int32 × mG)} (hJ : F_X12_isMoved a1 s = some τ) : Rn N xs (d + 5) me251 0 [some (.ref 88), some (.int a1), none, none, none, none, none, none] [] (SH, s) (some (.int τ.1), (SH, τ.2)) := k_X12_isMoved_r d hJ rfl
/-! IsHeInModel.anHour()I -/
theorem srt252 : m_srt mc252 = true := by decide +kernel
def C_X12_anHour_4 (N : Nat) (xs : Nat → Int32) (d : Nat) (r : Option Value × mH) (C : (Int32 × mG) → Prop) : ((Int32 × Int32 × mG) ⊕ (Int32 × mG)) → Prop
  | .inl v => Rn N xs (d + 6) me252 4 [some (.ref 88), some (.int v.1), some (.int v.2.1), none] [] (SH, v.2.2) r
  | .inr a => C a
def F_X12_anHour_65 (x2 : Int32) (y0 : Int32) (y1 : Int32) (s : mG) : Option ((Int32 × Int32 × mG) ⊕ (Int32 × mG)) :=
  some (Sum.inl ((y0 + y1), (x2 + ci 1), s))
set_option maxRecDepth 4000 in
theorem k_X12_anHour_65 {N : Nat} {xs : Nat → Int32} (d : Nat) {r : Option Value × mH} {s : mG} {x2 : Int32} {y0 : Int32} {y1 : Int32} {τ : ((Int32 × Int32 × mG) ⊕ (Int32 × mG))} (hJ : F_X12_anHour_65 x2 y0 y1 s = some τ) (hC : (C_X12_anHour_4 N xs d r (fun τ => r = (some (.int τ.1), (SH, τ.2)))) τ) : Rn N xs (d + 6) me252 65 [some (.ref 88), none, some (.int x2), none] [(.int y1), (.int y0)] (SH, s) r := by
  unfold F_X12_anHour_65 at hJ
  refine Rn_sq srt252 40 4 (pc' := 4) (ls' := [some (.ref 88), some (.int (y0 + y1)), some (.int (x2 + ci 1)), none]) (st' := []) (h1 := (SH, s)) rfl ?_
  rw [← Option.some.inj hJ] at hC
  exact hC
def F_X12_anHour_54 (x1 : Int32) (x2 : Int32) (x3 : Int32) (y1 : Int32) (y2 : Int32) (s : mG) : Option ((Int32 × Int32 × mG) ⊕ (Int32 × mG)) :=
  if y1 < 0 ∨ 1894 ≤ y1.toNatClampNeg then none else
  let s11 : mG := (mu s.1 89 y1.toNatClampNeg y2, s.2)
  if x3 = 0 then
    F_X12_anHour_65 x2 x1 (ci 0) s11
  else
    F_X12_anHour_65 x2 x1 (ci 1) s11
set_option maxRecDepth 4000 in
theorem k_X12_anHour_54 {N : Nat} {xs : Nat → Int32} (d : Nat) {r : Option Value × mH} {s : mG} {x1 : Int32} {x2 : Int32} {x3 : Int32} {y1 : Int32} {y2 : Int32} {τ : ((Int32 × Int32 × mG) ⊕ (Int32 × mG))} (hJ : F_X12_anHour_54 x1 x2 x3 y1 y2 s = some τ) (hC : (C_X12_anHour_4 N xs d r (fun τ => r = (some (.int τ.1), (SH, τ.2)))) τ) : Rn N xs (d + 6) me252 54 [some (.ref 88), some (.int x1), some (.int x2), some (.int x3)] [(.int y2), (.int y1), (.ref 89)] (SH, s) r := by
  unfold F_X12_anHour_54 at hJ
  split at hJ
  · cases hJ
  rename_i h10
  extract_lets s11 at hJ
  refine Rn_ev srt252 33 rfl rfl rfl (op_ias sh89 h10 (k := y1.toNatClampNeg) rfl) ?_
  refine Rn_sq srt252 34 3 (pc' := (if x3 = 0 then 64 else 60)) (ls' := [some (.ref 88), some (.int x1), some (.int x2), some (.int x3)]) (st' := [(.int x1)]) (h1 := (SH, s11)) rfl (Rn_if (fun h12 => ?_) (fun h12 => ?_))
  · rw [if_pos h12] at hJ
    refine Rn_sq srt252 39 1 (pc' := 65) (ls' := [some (.ref 88), some (.int x1), some (.int x2), some (.int x3)]) (st' := [(.int (ci 0)), (.int x1)]) (h1 := (SH, s11)) rfl ?_
    exact Rn_weaken (a := [some (.ref 88), none, some (.int x2), none]) (b := [some (.ref 88), some (.int x1), some (.int x2), some (.int x3)]) (And.intro rfl (And.intro rfl trivial)) rfl (k_X12_anHour_65 d hJ hC)
  · rw [if_neg h12] at hJ
    refine Rn_sq srt252 37 2 (pc' := 65) (ls' := [some (.ref 88), some (.int x1), some (.int x2), some (.int x3)]) (st' := [(.int (ci 1)), (.int x1)]) (h1 := (SH, s11)) rfl ?_
    exact Rn_weaken (a := [some (.ref 88), none, some (.int x2), none]) (b := [some (.ref 88), some (.int x1), some (.int x2), some (.int x3)]) (And.intro rfl (And.intro rfl trivial)) rfl (k_X12_anHour_65 d hJ hC)
def F_X12_anHour_B4 (x1 : Int32) (x2 : Int32) (s : mG) : Option ((Int32 × Int32 × mG) ⊕ (Int32 × mG)) :=
  if (s.1 89 112) ≤ x2 then
    let s2 : mG := (mu s.1 89 0 ((s.1 89 0) + (ci 1)), s.2)
    some (Sum.inr (x1, s2))
  else
    match F_X12_isMoved x2 s with
    | none => none
    | some (v5, s4) =>
    if v5 = 0 then
      if ((c8 27) + x2) < 0 ∨ 1894 ≤ ((c8 27) + x2).toNatClampNeg then none else
      match F_X12_lesser s4 (c16 999) ((s4.1 89 ((c8 27) + x2).toNatClampNeg) + (ci 1)) with
      | none => none
      | some v9 =>
      F_X12_anHour_54 x1 x2 v5 ((c8 27) + x2) v9 s4
    else
      F_X12_anHour_54 x1 x2 v5 ((c8 27) + x2) (ci 0) s4
set_option maxRecDepth 4000 in
theorem k_X12_anHour_B4 {N : Nat} {xs : Nat → Int32} (d : Nat) {r : Option Value × mH} {s : mG} {x1 : Int32} {x2 : Int32} {τ : ((Int32 × Int32 × mG) ⊕ (Int32 × mG))} (hJ : F_X12_anHour_B4 x1 x2 s = some τ) (hC : (C_X12_anHour_4 N xs d r (fun τ => r = (some (.int τ.1), (SH, τ.2)))) τ) : Rn N xs (d + 6) me252 4 [some (.ref 88), some (.int x1), some (.int x2), none] [] (SH, s) r := by
  unfold F_X12_anHour_B4 at hJ
  refine Rn_sq srt252 4 4 (pc' := 11) (ls' := [some (.ref 88), some (.int x1), some (.int x2), none]) (st' := [(.int (c8 112)), (.ref 89), (.int x2)]) (h1 := (SH, s)) rfl ?_
  refine Rn_ev srt252 8 rfl rfl rfl (op_ia sh89 (by decide) (k := 112) rfl) ?_
  refine Rn_sq srt252 9 1 (pc' := (if (s.1 89 112) ≤ x2 then 73 else 15)) (ls' := [some (.ref 88), some (.int x1), some (.int x2), none]) (st' := []) (h1 := (SH, s)) rfl (Rn_if (fun h1 => ?_) (fun h1 => ?_))
  · rw [if_pos h1] at hJ
    refine Rn_sq srt252 44 4 (pc' := 79) (ls' := [some (.ref 88), some (.int x1), some (.int x2), none]) (st' := [(.int (ci 0)), (.ref 89), (.int (ci 0)), (.ref 89)]) (h1 := (SH, s)) rfl ?_
    refine Rn_ev srt252 48 rfl rfl rfl (op_ia sh89 (by decide) (k := 0) rfl) ?_
    refine Rn_sq srt252 49 2 (pc' := 82) (ls' := [some (.ref 88), some (.int x1), some (.int x2), none]) (st' := [(.int ((s.1 89 0) + (ci 1))), (.int (ci 0)), (.ref 89)]) (h1 := (SH, s)) rfl ?_
    extract_lets s2 at hJ
    refine Rn_ev srt252 51 rfl rfl rfl (op_ias sh89 (by decide) (k := 0) rfl) ?_
    refine Rn_sq srt252 52 1 (pc' := 84) (ls' := [some (.ref 88), some (.int x1), some (.int x2), none]) (st' := [(.int x1)]) (h1 := (SH, s2)) rfl ?_
    rw [← Option.some.inj hJ] at hC
    have hC : r = (some (.int x1), (SH, s2)) := hC
    subst hC
    exact Rn_ret srt252 53 rfl rfl rfl
  · rw [if_neg h1] at hJ
    refine Rn_sq srt252 10 2 (pc' := 17) (ls' := [some (.ref 88), some (.int x1), some (.int x2), none]) (st' := [(.int x2), (.ref 88)]) (h1 := (SH, s)) rfl ?_
    split at hJ
    · cases hJ
    rename_i v5 s4 h3
    refine Rn_call srt252 12 rfl rfl rfl ⟨Nat.le_of_ble_eq_true rfl, Nat.le_of_ble_eq_true rfl, rfl, Nat.le_of_ble_eq_true rfl⟩ (k_X12_isMoved (d) h3) (show Rn N xs (d + 6) me252 20 [some (.ref 88), some (.int x1), some (.int x2), none] [(.int v5)] (SH, s4) r from ?_)
    refine Rn_sq srt252 13 8 (pc' := (if v5 = 0 then 37 else 33)) (ls' := [some (.ref 88), some (.int x1), some (.int x2), some (.int v5)]) (st' := [(.int ((c8 27) + x2)), (.ref 89)]) (h1 := (SH, s4)) rfl (Rn_if (fun h6 => ?_) (fun h6 => ?_))
    · rw [if_pos h6] at hJ
      refine Rn_sq srt252 23 6 (pc' := 48) (ls' := [some (.ref 88), some (.int x1), some (.int x2), some (.int v5)]) (st' := [(.int ((c8 27) + x2)), (.ref 89), (.int (c16 999)), (.int ((c8 27) + x2)), (.ref 89)]) (h1 := (SH, s4)) rfl ?_
      split at hJ
      · cases hJ
      rename_i h7
      refine Rn_ev srt252 29 rfl rfl rfl (op_ia sh89 h7 (k := ((c8 27) + x2).toNatClampNeg) rfl) ?_
      refine Rn_sq srt252 30 2 (pc' := 51) (ls' := [some (.ref 88), some (.int x1), some (.int x2), some (.int v5)]) (st' := [(.int ((s4.1 89 ((c8 27) + x2).toNatClampNeg) + (ci 1))), (.int (c16 999)), (.int ((c8 27) + x2)), (.ref 89)]) (h1 := (SH, s4)) rfl ?_
      split at hJ
      · cases hJ
      rename_i v9 h8
      refine Rn_call srt252 32 rfl rfl rfl ⟨Nat.le_of_ble_eq_true rfl, Nat.le_of_ble_eq_true rfl, rfl, Nat.le_of_ble_eq_true rfl⟩ (k_X12_lesser (d + 5) h8) (show Rn N xs (d + 6) me252 54 [some (.ref 88), some (.int x1), some (.int x2), some (.int v5)] [(.int v9), (.int ((c8 27) + x2)), (.ref 89)] (SH, s4) r from ?_)
      exact (k_X12_anHour_54 d hJ hC)
    · rw [if_neg h6] at hJ
      refine Rn_sq srt252 21 2 (pc' := 54) (ls' := [some (.ref 88), some (.int x1), some (.int x2), some (.int v5)]) (st' := [(.int (ci 0)), (.int ((c8 27) + x2)), (.ref 89)]) (h1 := (SH, s4)) rfl ?_
      exact (k_X12_anHour_54 d hJ hC)
def F_X12_anHour_L4 (x1 : Int32) (x2 : Int32) (s : mG) : Option (Int32 × mG) := whl (fun (v : (Int32 × Int32 × mG)) => F_X12_anHour_B4 v.1 v.2.1 v.2.2) (x1, x2, s)
theorem k_X12_anHour_L4 {N : Nat} {xs : Nat → Int32} (d : Nat) {r : Option Value × mH} {s : mG} {x1 : Int32} {x2 : Int32} {τ : (Int32 × mG)} (hJ : F_X12_anHour_L4 x1 x2 s = some τ) (hC : (fun τ => r = (some (.int τ.1), (SH, τ.2))) τ) : Rn N xs (d + 6) me252 4 [some (.ref 88), some (.int x1), some (.int x2), none] [] (SH, s) r :=
  whl_link (P := fun (v : (Int32 × Int32 × mG)) => Rn N xs (d + 6) me252 4 [some (.ref 88), some (.int v.1), some (.int v.2.1), none] [] (SH, v.2.2) r) (C := (C_X12_anHour_4 N xs d r (fun τ => r = (some (.int τ.1), (SH, τ.2))))) (fun v τ h1 h2 => k_X12_anHour_B4 d h1 h2) (fun _ h => h) (fun _ h => h) _ _ hJ hC
def F_X12_anHour (s : mG) : Option (Int32 × mG) :=
  F_X12_anHour_L4 (ci 0) (ci 0) s
set_option maxRecDepth 4000 in
theorem k_X12_anHour_r {N : Nat} {xs : Nat → Int32} (d : Nat) {r : Option Value × mH} {s : mG} {τ : (Int32 × mG)} (hJ : F_X12_anHour s = some τ) (hC : (fun τ => r = (some (.int τ.1), (SH, τ.2))) τ) : Rn N xs (d + 6) me252 0 [some (.ref 88), none, none, none] [] (SH, s) r := by
  unfold F_X12_anHour at hJ
  refine Rn_sq srt252 0 4 (pc' := 4) (ls' := [some (.ref 88), some (.int (ci 0)), some (.int (ci 0)), none]) (st' := []) (h1 := (SH, s)) rfl ?_
  exact (k_X12_anHour_L4 d hJ hC)
theorem k_X12_anHour {N : Nat} {xs : Nat → Int32} (d : Nat) {s : mG} {τ : (Int32 × mG)} (hJ : F_X12_anHour s = some τ) : Rn N xs (d + 6) me252 0 [some (.ref 88), none, none, none] [] (SH, s) (some (.int τ.1), (SH, τ.2)) := k_X12_anHour_r d hJ rfl
/-! IsHeInModel.hours(I)I -/
theorem srt253 : m_srt mc253 = true := by decide +kernel
def F_X12_hours_24 (s : mG) : Option (Int32 × mG) :=
  some ((ci (-1)), s)
set_option maxRecDepth 4000 in
theorem k_X12_hours_24 {N : Nat} {xs : Nat → Int32} (d : Nat) {r : Option Value × mH} {s : mG} {τ : (Int32 × mG)} (hJ : F_X12_hours_24 s = some τ) (hC : (fun τ => r = (some (.int τ.1), (SH, τ.2))) τ) : Rn N xs (d + 7) me253 24 [none, none, none, none] [] (SH, s) r := by
  unfold F_X12_hours_24 at hJ
  refine Rn_sq srt253 13 1 (pc' := 25) (ls' := [none, none, none, none]) (st' := [(.int (ci (-1)))]) (h1 := (SH, s)) rfl ?_
  rw [← Option.some.inj hJ] at hC
  have hC : r = (some (.int (ci (-1))), (SH, s)) := hC
  subst hC
  exact Rn_ret srt253 14 rfl rfl rfl
def C_X12_hours_30 (N : Nat) (xs : Nat → Int32) (d : Nat) (r : Option Value × mH) (C : (Int32 × mG) → Prop) : ((Int32 × Int32 × Int32 × mG) ⊕ (Int32 × mG)) → Prop
  | .inl v => Rn N xs (d + 7) me253 30 [some (.ref 88), some (.int v.1), some (.int v.2.1), some (.int v.2.2.1)] [] (SH, v.2.2.2) r
  | .inr a => C a
def F_X12_hours_B30 (x1 : Int32) (x2 : Int32) (x3 : Int32) (s : mG) : Option ((Int32 × Int32 × Int32 × mG) ⊕ (Int32 × mG)) :=
  if x1 ≤ x3 then
    some (Sum.inr (x2, s))
  else
    match F_X12_keeps s with
    | none => none
    | some s7 =>
    match F_X12_anHour s7 with
    | none => none
    | some (v10, s9) =>
    some (Sum.inl (x1, (x2 + v10), (x3 + ci 1), s9))
set_option maxRecDepth 4000 in
theorem k_X12_hours_B30 {N : Nat} {xs : Nat → Int32} (d : Nat) {r : Option Value × mH} {s : mG} {x1 : Int32} {x2 : Int32} {x3 : Int32} {τ : ((Int32 × Int32 × Int32 × mG) ⊕ (Int32 × mG))} (hJ : F_X12_hours_B30 x1 x2 x3 s = some τ) (hC : (C_X12_hours_30 N xs d r (fun τ => r = (some (.int τ.1), (SH, τ.2)))) τ) : Rn N xs (d + 7) me253 30 [some (.ref 88), some (.int x1), some (.int x2), some (.int x3)] [] (SH, s) r := by
  unfold F_X12_hours_B30 at hJ
  refine Rn_sq srt253 19 3 (pc' := (if x1 ≤ x3 then 52 else 35)) (ls' := [some (.ref 88), some (.int x1), some (.int x2), some (.int x3)]) (st' := []) (h1 := (SH, s)) rfl (Rn_if (fun h5 => ?_) (fun h5 => ?_))
  · rw [if_pos h5] at hJ
    refine Rn_sq srt253 31 1 (pc' := 53) (ls' := [some (.ref 88), some (.int x1), some (.int x2), some (.int x3)]) (st' := [(.int x2)]) (h1 := (SH, s)) rfl ?_
    rw [← Option.some.inj hJ] at hC
    have hC : r = (some (.int x2), (SH, s)) := hC
    subst hC
    exact Rn_ret srt253 32 rfl rfl rfl
  · rw [if_neg h5] at hJ
    refine Rn_sq srt253 22 1 (pc' := 36) (ls' := [some (.ref 88), some (.int x1), some (.int x2), some (.int x3)]) (st' := [(.ref 88)]) (h1 := (SH, s)) rfl ?_
    split at hJ
    · cases hJ
    rename_i s7 h6
    refine Rn_call srt253 23 rfl rfl rfl ⟨Nat.le_of_ble_eq_true rfl, Nat.le_of_ble_eq_true rfl, rfl, Nat.le_of_ble_eq_true rfl⟩ (k_X12_keeps (d + 6) h6) (show Rn N xs (d + 7) me253 39 [some (.ref 88), some (.int x1), some (.int x2), some (.int x3)] [] (SH, s7) r from ?_)
    refine Rn_sq srt253 24 2 (pc' := 41) (ls' := [some (.ref 88), some (.int x1), some (.int x2), some (.int x3)]) (st' := [(.ref 88), (.int x2)]) (h1 := (SH, s7)) rfl ?_
    split at hJ
    · cases hJ
    rename_i v10 s9 h8
    refine Rn_call srt253 26 rfl rfl rfl ⟨Nat.le_of_ble_eq_true rfl, Nat.le_of_ble_eq_true rfl, rfl, Nat.le_of_ble_eq_true rfl⟩ (k_X12_anHour (d) h8) (show Rn N xs (d + 7) me253 44 [some (.ref 88), some (.int x1), some (.int x2), some (.int x3)] [(.int v10), (.int x2)] (SH, s9) r from ?_)
    refine Rn_sq srt253 27 4 (pc' := 30) (ls' := [some (.ref 88), some (.int x1), some (.int (x2 + v10)), some (.int (x3 + ci 1))]) (st' := []) (h1 := (SH, s9)) rfl ?_
    rw [← Option.some.inj hJ] at hC
    exact hC
def F_X12_hours_L30 (x1 : Int32) (x2 : Int32) (x3 : Int32) (s : mG) : Option (Int32 × mG) := whl (fun (v : (Int32 × Int32 × Int32 × mG)) => F_X12_hours_B30 v.1 v.2.1 v.2.2.1 v.2.2.2) (x1, x2, x3, s)
theorem k_X12_hours_L30 {N : Nat} {xs : Nat → Int32} (d : Nat) {r : Option Value × mH} {s : mG} {x1 : Int32} {x2 : Int32} {x3 : Int32} {τ : (Int32 × mG)} (hJ : F_X12_hours_L30 x1 x2 x3 s = some τ) (hC : (fun τ => r = (some (.int τ.1), (SH, τ.2))) τ) : Rn N xs (d + 7) me253 30 [some (.ref 88), some (.int x1), some (.int x2), some (.int x3)] [] (SH, s) r :=
  whl_link (P := fun (v : (Int32 × Int32 × Int32 × mG)) => Rn N xs (d + 7) me253 30 [some (.ref 88), some (.int v.1), some (.int v.2.1), some (.int v.2.2.1)] [] (SH, v.2.2.2) r) (C := (C_X12_hours_30 N xs d r (fun τ => r = (some (.int τ.1), (SH, τ.2))))) (fun v τ h1 h2 => k_X12_hours_B30 d h1 h2) (fun _ h => h) (fun _ h => h) _ _ hJ hC
def F_X12_hours (a1 : Int32) (s : mG) : Option (Int32 × mG) :=
  match F_X12_isIn s a1 (ci 1) (c8 60) with
  | none => none
  | some v2 =>
  if v2 = 0 then
    F_X12_hours_24 s
  else
    if ((s.1 89 0) + a1) ≤ (c16 9999) then
      F_X12_hours_L30 a1 (ci 0) (ci 0) s
    else
      F_X12_hours_24 s
set_option maxRecDepth 4000 in
theorem k_X12_hours_r {N : Nat} {xs : Nat → Int32} (d : Nat) {r : Option Value × mH} {s : mG} {a1 : Int32} {τ : (Int32 × mG)} (hJ : F_X12_hours a1 s = some τ) (hC : (fun τ => r = (some (.int τ.1), (SH, τ.2))) τ) : Rn N xs (d + 7) me253 0 [some (.ref 88), some (.int a1), none, none] [] (SH, s) r := by
  unfold F_X12_hours at hJ
  refine Rn_sq srt253 0 3 (pc' := 4) (ls' := [some (.ref 88), some (.int a1), none, none]) (st' := [(.int (c8 60)), (.int (ci 1)), (.int a1)]) (h1 := (SH, s)) rfl ?_
  split at hJ
  · cases hJ
  rename_i v2 h1
  refine Rn_call srt253 3 rfl rfl rfl ⟨Nat.le_of_ble_eq_true rfl, Nat.le_of_ble_eq_true rfl, rfl, Nat.le_of_ble_eq_true rfl⟩ (k_X12_isIn (d + 6) h1) (show Rn N xs (d + 7) me253 7 [some (.ref 88), some (.int a1), none, none] [(.int v2)] (SH, s) r from ?_)
  refine Rn_sq srt253 4 1 (pc' := (if v2 = 0 then 24 else 10)) (ls' := [some (.ref 88), some (.int a1), none, none]) (st' := []) (h1 := (SH, s)) rfl (Rn_if (fun h3 => ?_) (fun h3 => ?_))
  · rw [if_pos h3] at hJ
    exact Rn_weaken (a := [none, none, none, none]) (b := [some (.ref 88), some (.int a1), none, none]) trivial rfl (k_X12_hours_24 d hJ hC)
  · rw [if_neg h3] at hJ
    refine Rn_sq srt253 5 3 (pc' := 15) (ls' := [some (.ref 88), some (.int a1), none, none]) (st' := [(.int (ci 0)), (.ref 89)]) (h1 := (SH, s)) rfl ?_
    refine Rn_ev srt253 8 rfl rfl rfl (op_ia sh89 (by decide) (k := 0) rfl) ?_
    refine Rn_sq srt253 9 4 (pc' := (if ((s.1 89 0) + a1) ≤ (c16 9999) then 26 else 24)) (ls' := [some (.ref 88), some (.int a1), none, none]) (st' := []) (h1 := (SH, s)) rfl (Rn_if (fun h4 => ?_) (fun h4 => ?_))
    · rw [if_pos h4] at hJ
      refine Rn_sq srt253 15 4 (pc' := 30) (ls' := [some (.ref 88), some (.int a1), some (.int (ci 0)), some (.int (ci 0))]) (st' := []) (h1 := (SH, s)) rfl ?_
      exact (k_X12_hours_L30 d hJ hC)
    · rw [if_neg h4] at hJ
      exact Rn_weaken (a := [none, none, none, none]) (b := [some (.ref 88), some (.int a1), none, none]) trivial rfl (k_X12_hours_24 d hJ hC)
theorem k_X12_hours {N : Nat} {xs : Nat → Int32} (d : Nat) {s : mG} {a1 : Int32} {τ : (Int32 × mG)} (hJ : F_X12_hours a1 s = some τ) : Rn N xs (d + 7) me253 0 [some (.ref 88), some (.int a1), none, none] [] (SH, s) (some (.int τ.1), (SH, τ.2)) := k_X12_hours_r d hJ rfl
/-! IsHeInModel.hang(II)Z -/
theorem srt254 : m_srt mc254 = true := by decide +kernel
def F_X12_hang_36 (s : mG) : Option (Int32 × mG) :=
  some ((ci 0), s)
set_option maxRecDepth 4000 in
theorem k_X12_hang_36 {N : Nat} {xs : Nat → Int32} (d : Nat) {r : Option Value × mH} {s : mG} {τ : (Int32 × mG)} (hJ : F_X12_hang_36 s = some τ) (hC : (fun τ => r = (some (.int τ.1), (SH, τ.2))) τ) : Rn N xs (d + 2) me254 36 [none, none, none] [] (SH, s) r := by
  unfold F_X12_hang_36 at hJ
  refine Rn_sq srt254 20 1 (pc' := 37) (ls' := [none, none, none]) (st' := [(.int (ci 0))]) (h1 := (SH, s)) rfl ?_
  rw [← Option.some.inj hJ] at hC
  have hC : r = (some (.int (ci 0)), (SH, s)) := hC
  subst hC
  exact Rn_ret srt254 21 rfl rfl (if_pos (by decide))
def F_X12_hang (a1 : Int32) (a2 : Int32) (s : mG) : Option (Int32 × mG) :=
  match F_X12_isGuest s a1 with
  | none => none
  | some v2 =>
  if v2 = 0 then
    F_X12_hang_36 s
  else
    match F_X12_isGuest s a2 with
    | none => none
    | some v5 =>
    if v5 = 0 then
      F_X12_hang_36 s
    else
      if ((ci 3) + a1) < 0 ∨ 1894 ≤ ((ci 3) + a1).toNatClampNeg then none else
      if (s.1 89 ((ci 3) + a1).toNatClampNeg) = 0 then
        F_X12_hang_36 s
      else
        match F_X12_keyOn s a2 with
        | none => none
        | some v10 =>
        if v10 = (ci (-1)) then
          match F_X12_keeps s with
          | none => none
          | some s13 =>
          if ((c8 15) + a1) < 0 ∨ 1894 ≤ ((c8 15) + a1).toNatClampNeg then none else
          let s15 : mG := (mu s13.1 89 ((c8 15) + a1).toNatClampNeg a2, s13.2)
          match F_X12_notes (ci 2) a1 a2 (ci (-1)) s15 with
          | none => none
          | some s17 =>
          some ((ci 1), s17)
        else
          F_X12_hang_36 s
set_option maxRecDepth 4000 in
theorem k_X12_hang_r {N : Nat} {xs : Nat → Int32} (d : Nat) {r : Option Value × mH} {s : mG} {a1 : Int32} {a2 : Int32} {τ : (Int32 × mG)} (hJ : F_X12_hang a1 a2 s = some τ) (hC : (fun τ => r = (some (.int τ.1), (SH, τ.2))) τ) : Rn N xs (d + 2) me254 0 [some (.ref 88), some (.int a1), some (.int a2)] [] (SH, s) r := by
  unfold F_X12_hang at hJ
  refine Rn_sq srt254 0 2 (pc' := 2) (ls' := [some (.ref 88), some (.int a1), some (.int a2)]) (st' := [(.int a1), (.ref 88)]) (h1 := (SH, s)) rfl ?_
  split at hJ
  · cases hJ
  rename_i v2 h1
  refine Rn_call srt254 2 rfl rfl rfl ⟨Nat.le_of_ble_eq_true rfl, Nat.le_of_ble_eq_true rfl, rfl, Nat.le_of_ble_eq_true rfl⟩ (k_X12_isGuest (d) h1) (show Rn N xs (d + 2) me254 5 [some (.ref 88), some (.int a1), some (.int a2)] [(.int v2)] (SH, s) r from ?_)
  refine Rn_sq srt254 3 1 (pc' := (if v2 = 0 then 36 else 8)) (ls' := [some (.ref 88), some (.int a1), some (.int a2)]) (st' := []) (h1 := (SH, s)) rfl (Rn_if (fun h3 => ?_) (fun h3 => ?_))
  · rw [if_pos h3] at hJ
    exact Rn_weaken (a := [none, none, none]) (b := [some (.ref 88), some (.int a1), some (.int a2)]) trivial rfl (k_X12_hang_36 d hJ hC)
  · rw [if_neg h3] at hJ
    refine Rn_sq srt254 4 2 (pc' := 10) (ls' := [some (.ref 88), some (.int a1), some (.int a2)]) (st' := [(.int a2), (.ref 88)]) (h1 := (SH, s)) rfl ?_
    split at hJ
    · cases hJ
    rename_i v5 h4
    refine Rn_call srt254 6 rfl rfl rfl ⟨Nat.le_of_ble_eq_true rfl, Nat.le_of_ble_eq_true rfl, rfl, Nat.le_of_ble_eq_true rfl⟩ (k_X12_isGuest (d) h4) (show Rn N xs (d + 2) me254 13 [some (.ref 88), some (.int a1), some (.int a2)] [(.int v5)] (SH, s) r from ?_)
    refine Rn_sq srt254 7 1 (pc' := (if v5 = 0 then 36 else 16)) (ls' := [some (.ref 88), some (.int a1), some (.int a2)]) (st' := []) (h1 := (SH, s)) rfl (Rn_if (fun h6 => ?_) (fun h6 => ?_))
    · rw [if_pos h6] at hJ
      exact Rn_weaken (a := [none, none, none]) (b := [some (.ref 88), some (.int a1), some (.int a2)]) trivial rfl (k_X12_hang_36 d hJ hC)
    · rw [if_neg h6] at hJ
      refine Rn_sq srt254 8 5 (pc' := 23) (ls' := [some (.ref 88), some (.int a1), some (.int a2)]) (st' := [(.int ((ci 3) + a1)), (.ref 89)]) (h1 := (SH, s)) rfl ?_
      split at hJ
      · cases hJ
      rename_i h7
      refine Rn_ev srt254 13 rfl rfl rfl (op_ia sh89 h7 (k := ((ci 3) + a1).toNatClampNeg) rfl) ?_
      refine Rn_sq srt254 14 1 (pc' := (if (s.1 89 ((ci 3) + a1).toNatClampNeg) = 0 then 36 else 27)) (ls' := [some (.ref 88), some (.int a1), some (.int a2)]) (st' := []) (h1 := (SH, s)) rfl (Rn_if (fun h8 => ?_) (fun h8 => ?_))
      · rw [if_pos h8] at hJ
        exact Rn_weaken (a := [none, none, none]) (b := [some (.ref 88), some (.int a1), some (.int a2)]) trivial rfl (k_X12_hang_36 d hJ hC)
      · rw [if_neg h8] at hJ
        refine Rn_sq srt254 15 2 (pc' := 29) (ls' := [some (.ref 88), some (.int a1), some (.int a2)]) (st' := [(.int a2), (.ref 88)]) (h1 := (SH, s)) rfl ?_
        split at hJ
        · cases hJ
        rename_i v10 h9
        refine Rn_call srt254 17 rfl rfl rfl ⟨Nat.le_of_ble_eq_true rfl, Nat.le_of_ble_eq_true rfl, rfl, Nat.le_of_ble_eq_true rfl⟩ (k_X12_keyOn (d + 1) h9) (show Rn N xs (d + 2) me254 32 [some (.ref 88), some (.int a1), some (.int a2)] [(.int v10)] (SH, s) r from ?_)
        refine Rn_sq srt254 18 2 (pc' := (if v10 = (ci (-1)) then 38 else 36)) (ls' := [some (.ref 88), some (.int a1), some (.int a2)]) (st' := []) (h1 := (SH, s)) rfl (Rn_if (fun h11 => ?_) (fun h11 => ?_))
        · rw [if_pos h11] at hJ
          refine Rn_sq srt254 22 1 (pc' := 39) (ls' := [some (.ref 88), some (.int a1), some (.int a2)]) (st' := [(.ref 88)]) (h1 := (SH, s)) rfl ?_
          split at hJ
          · cases hJ
          rename_i s13 h12
          refine Rn_call srt254 23 rfl rfl rfl ⟨Nat.le_of_ble_eq_true rfl, Nat.le_of_ble_eq_true rfl, rfl, Nat.le_of_ble_eq_true rfl⟩ (k_X12_keeps (d + 1) h12) (show Rn N xs (d + 2) me254 42 [some (.ref 88), some (.int a1), some (.int a2)] [] (SH, s13) r from ?_)
          refine Rn_sq srt254 24 6 (pc' := 51) (ls' := [some (.ref 88), some (.int a1), some (.int a2)]) (st' := [(.int a2), (.int ((c8 15) + a1)), (.ref 89)]) (h1 := (SH, s13)) rfl ?_
          split at hJ
          · cases hJ
          rename_i h14
          extract_lets s15 at hJ
          refine Rn_ev srt254 30 rfl rfl rfl (op_ias sh89 h14 (k := ((c8 15) + a1).toNatClampNeg) rfl) ?_
          refine Rn_sq srt254 31 5 (pc' := 57) (ls' := [some (.ref 88), some (.int a1), some (.int a2)]) (st' := [(.int (ci (-1))), (.int a2), (.int a1), (.int (ci 2)), (.ref 88)]) (h1 := (SH, s15)) rfl ?_
          split at hJ
          · cases hJ
          rename_i s17 h16
          refine Rn_call srt254 36 rfl rfl rfl ⟨Nat.le_of_ble_eq_true rfl, Nat.le_of_ble_eq_true rfl, rfl, Nat.le_of_ble_eq_true rfl⟩ (k_X12_notes (d + 1) h16) (show Rn N xs (d + 2) me254 60 [some (.ref 88), some (.int a1), some (.int a2)] [] (SH, s17) r from ?_)
          refine Rn_sq srt254 37 1 (pc' := 61) (ls' := [some (.ref 88), some (.int a1), some (.int a2)]) (st' := [(.int (ci 1))]) (h1 := (SH, s17)) rfl ?_
          rw [← Option.some.inj hJ] at hC
          have hC : r = (some (.int (ci 1)), (SH, s17)) := hC
          subst hC
          exact Rn_ret srt254 38 rfl rfl (if_pos (by decide))
        · rw [if_neg h11] at hJ
          exact Rn_weaken (a := [none, none, none]) (b := [some (.ref 88), some (.int a1), some (.int a2)]) trivial rfl (k_X12_hang_36 d hJ hC)
theorem k_X12_hang {N : Nat} {xs : Nat → Int32} (d : Nat) {s : mG} {a1 : Int32} {a2 : Int32} {τ : (Int32 × mG)} (hJ : F_X12_hang a1 a2 s = some τ) : Rn N xs (d + 2) me254 0 [some (.ref 88), some (.int a1), some (.int a2)] [] (SH, s) (some (.int τ.1), (SH, τ.2)) := k_X12_hang_r d hJ rfl
/-! IsHeInModel.looks(III)Z -/
theorem srt255 : m_srt mc255 = true := by decide +kernel
def F_X12_looks_43 (s : mG) : Option (Int32 × mG) :=
  some ((ci 0), s)
set_option maxRecDepth 4000 in
theorem k_X12_looks_43 {N : Nat} {xs : Nat → Int32} (d : Nat) {r : Option Value × mH} {s : mG} {τ : (Int32 × mG)} (hJ : F_X12_looks_43 s = some τ) (hC : (fun τ => r = (some (.int τ.1), (SH, τ.2))) τ) : Rn N xs (d + 2) me255 43 [none, none, none, none] [] (SH, s) r := by
  unfold F_X12_looks_43 at hJ
  refine Rn_sq srt255 25 1 (pc' := 44) (ls' := [none, none, none, none]) (st' := [(.int (ci 0))]) (h1 := (SH, s)) rfl ?_
  rw [← Option.some.inj hJ] at hC
  have hC : r = (some (.int (ci 0)), (SH, s)) := hC
  subst hC
  exact Rn_ret srt255 26 rfl rfl (if_pos (by decide))
def F_X12_looks (a1 : Int32) (a2 : Int32) (a3 : Int32) (s : mG) : Option (Int32 × mG) :=
  match F_X12_isGuest s a1 with
  | none => none
  | some v2 =>
  if v2 = 0 then
    F_X12_looks_43 s
  else
    match F_X12_isSign s a2 with
    | none => none
    | some v5 =>
    if v5 = 0 then
      F_X12_looks_43 s
    else
      match F_X12_isIn s a3 (ci (-1)) (ci 1) with
      | none => none
      | some v8 =>
      if v8 = 0 then
        F_X12_looks_43 s
      else
        if (((c8 39) + ((c8 6) * a1)) + a2) < 0 ∨ 1894 ≤ (((c8 39) + ((c8 6) * a1)) + a2).toNatClampNeg then none else
        if (s.1 89 (((c8 39) + ((c8 6) * a1)) + a2).toNatClampNeg) = a3 then
          F_X12_looks_43 s
        else
          match F_X12_keeps s with
          | none => none
          | some s13 =>
          if (((c8 39) + ((c8 6) * a1)) + a2) < 0 ∨ 1894 ≤ (((c8 39) + ((c8 6) * a1)) + a2).toNatClampNeg then none else
          let s15 : mG := (mu s13.1 89 (((c8 39) + ((c8 6) * a1)) + a2).toNatClampNeg a3, s13.2)
          some ((ci 1), s15)
set_option maxRecDepth 4000 in
theorem k_X12_looks_r {N : Nat} {xs : Nat → Int32} (d : Nat) {r : Option Value × mH} {s : mG} {a1 : Int32} {a2 : Int32} {a3 : Int32} {τ : (Int32 × mG)} (hJ : F_X12_looks a1 a2 a3 s = some τ) (hC : (fun τ => r = (some (.int τ.1), (SH, τ.2))) τ) : Rn N xs (d + 2) me255 0 [some (.ref 88), some (.int a1), some (.int a2), some (.int a3)] [] (SH, s) r := by
  unfold F_X12_looks at hJ
  refine Rn_sq srt255 0 2 (pc' := 2) (ls' := [some (.ref 88), some (.int a1), some (.int a2), some (.int a3)]) (st' := [(.int a1), (.ref 88)]) (h1 := (SH, s)) rfl ?_
  split at hJ
  · cases hJ
  rename_i v2 h1
  refine Rn_call srt255 2 rfl rfl rfl ⟨Nat.le_of_ble_eq_true rfl, Nat.le_of_ble_eq_true rfl, rfl, Nat.le_of_ble_eq_true rfl⟩ (k_X12_isGuest (d) h1) (show Rn N xs (d + 2) me255 5 [some (.ref 88), some (.int a1), some (.int a2), some (.int a3)] [(.int v2)] (SH, s) r from ?_)
  refine Rn_sq srt255 3 1 (pc' := (if v2 = 0 then 43 else 8)) (ls' := [some (.ref 88), some (.int a1), some (.int a2), some (.int a3)]) (st' := []) (h1 := (SH, s)) rfl (Rn_if (fun h3 => ?_) (fun h3 => ?_))
  · rw [if_pos h3] at hJ
    exact Rn_weaken (a := [none, none, none, none]) (b := [some (.ref 88), some (.int a1), some (.int a2), some (.int a3)]) trivial rfl (k_X12_looks_43 d hJ hC)
  · rw [if_neg h3] at hJ
    refine Rn_sq srt255 4 2 (pc' := 10) (ls' := [some (.ref 88), some (.int a1), some (.int a2), some (.int a3)]) (st' := [(.int a2), (.ref 88)]) (h1 := (SH, s)) rfl ?_
    split at hJ
    · cases hJ
    rename_i v5 h4
    refine Rn_call srt255 6 rfl rfl rfl ⟨Nat.le_of_ble_eq_true rfl, Nat.le_of_ble_eq_true rfl, rfl, Nat.le_of_ble_eq_true rfl⟩ (k_X12_isSign (d) h4) (show Rn N xs (d + 2) me255 13 [some (.ref 88), some (.int a1), some (.int a2), some (.int a3)] [(.int v5)] (SH, s) r from ?_)
    refine Rn_sq srt255 7 1 (pc' := (if v5 = 0 then 43 else 16)) (ls' := [some (.ref 88), some (.int a1), some (.int a2), some (.int a3)]) (st' := []) (h1 := (SH, s)) rfl (Rn_if (fun h6 => ?_) (fun h6 => ?_))
    · rw [if_pos h6] at hJ
      exact Rn_weaken (a := [none, none, none, none]) (b := [some (.ref 88), some (.int a1), some (.int a2), some (.int a3)]) trivial rfl (k_X12_looks_43 d hJ hC)
    · rw [if_neg h6] at hJ
      refine Rn_sq srt255 8 3 (pc' := 19) (ls' := [some (.ref 88), some (.int a1), some (.int a2), some (.int a3)]) (st' := [(.int (ci 1)), (.int (ci (-1))), (.int a3)]) (h1 := (SH, s)) rfl ?_
      split at hJ
      · cases hJ
      rename_i v8 h7
      refine Rn_call srt255 11 rfl rfl rfl ⟨Nat.le_of_ble_eq_true rfl, Nat.le_of_ble_eq_true rfl, rfl, Nat.le_of_ble_eq_true rfl⟩ (k_X12_isIn (d + 1) h7) (show Rn N xs (d + 2) me255 22 [some (.ref 88), some (.int a1), some (.int a2), some (.int a3)] [(.int v8)] (SH, s) r from ?_)
      refine Rn_sq srt255 12 1 (pc' := (if v8 = 0 then 43 else 25)) (ls' := [some (.ref 88), some (.int a1), some (.int a2), some (.int a3)]) (st' := []) (h1 := (SH, s)) rfl (Rn_if (fun h9 => ?_) (fun h9 => ?_))
      · rw [if_pos h9] at hJ
        exact Rn_weaken (a := [none, none, none, none]) (b := [some (.ref 88), some (.int a1), some (.int a2), some (.int a3)]) trivial rfl (k_X12_looks_43 d hJ hC)
      · rw [if_neg h9] at hJ
        refine Rn_sq srt255 13 9 (pc' := 38) (ls' := [some (.ref 88), some (.int a1), some (.int a2), some (.int a3)]) (st' := [(.int (((c8 39) + ((c8 6) * a1)) + a2)), (.ref 89)]) (h1 := (SH, s)) rfl ?_
        split at hJ
        · cases hJ
        rename_i h10
        refine Rn_ev srt255 22 rfl rfl rfl (op_ia sh89 h10 (k := (((c8 39) + ((c8 6) * a1)) + a2).toNatClampNeg) rfl) ?_
        refine Rn_sq srt255 23 2 (pc' := (if (s.1 89 (((c8 39) + ((c8 6) * a1)) + a2).toNatClampNeg) = a3 then 43 else 45)) (ls' := [some (.ref 88), some (.int a1), some (.int a2), some (.int a3)]) (st' := []) (h1 := (SH, s)) rfl (Rn_if (fun h11 => ?_) (fun h11 => ?_))
        · rw [if_pos h11] at hJ
          exact Rn_weaken (a := [none, none, none, none]) (b := [some (.ref 88), some (.int a1), some (.int a2), some (.int a3)]) trivial rfl (k_X12_looks_43 d hJ hC)
        · rw [if_neg h11] at hJ
          refine Rn_sq srt255 27 1 (pc' := 46) (ls' := [some (.ref 88), some (.int a1), some (.int a2), some (.int a3)]) (st' := [(.ref 88)]) (h1 := (SH, s)) rfl ?_
          split at hJ
          · cases hJ
          rename_i s13 h12
          refine Rn_call srt255 28 rfl rfl rfl ⟨Nat.le_of_ble_eq_true rfl, Nat.le_of_ble_eq_true rfl, rfl, Nat.le_of_ble_eq_true rfl⟩ (k_X12_keeps (d + 1) h12) (show Rn N xs (d + 2) me255 49 [some (.ref 88), some (.int a1), some (.int a2), some (.int a3)] [] (SH, s13) r from ?_)
          refine Rn_sq srt255 29 10 (pc' := 63) (ls' := [some (.ref 88), some (.int a1), some (.int a2), some (.int a3)]) (st' := [(.int a3), (.int (((c8 39) + ((c8 6) * a1)) + a2)), (.ref 89)]) (h1 := (SH, s13)) rfl ?_
          split at hJ
          · cases hJ
          rename_i h14
          extract_lets s15 at hJ
          refine Rn_ev srt255 39 rfl rfl rfl (op_ias sh89 h14 (k := (((c8 39) + ((c8 6) * a1)) + a2).toNatClampNeg) rfl) ?_
          refine Rn_sq srt255 40 1 (pc' := 65) (ls' := [some (.ref 88), some (.int a1), some (.int a2), some (.int a3)]) (st' := [(.int (ci 1))]) (h1 := (SH, s15)) rfl ?_
          rw [← Option.some.inj hJ] at hC
          have hC : r = (some (.int (ci 1)), (SH, s15)) := hC
          subst hC
          exact Rn_ret srt255 41 rfl rfl (if_pos (by decide))
theorem k_X12_looks {N : Nat} {xs : Nat → Int32} (d : Nat) {s : mG} {a1 : Int32} {a2 : Int32} {a3 : Int32} {τ : (Int32 × mG)} (hJ : F_X12_looks a1 a2 a3 s = some τ) : Rn N xs (d + 2) me255 0 [some (.ref 88), some (.int a1), some (.int a2), some (.int a3)] [] (SH, s) (some (.int τ.1), (SH, τ.2)) := k_X12_looks_r d hJ rfl
/-! IsHeInModel.byA(JJJ)J -/
theorem srt256 : m_srt mc256 = true := by decide +kernel
def F_X12_byA (s : mG) (a1 : Int64) (a2 : Int64) (a3 : Int64) : Option (Int64) :=
  if ((a1 * a2) + (((cl 1000000) - a1) * a3)) = 0 then none else
  some (((cl 1000000) * (a1 * a2)) / ((a1 * a2) + (((cl 1000000) - a1) * a3)))
set_option maxRecDepth 4000 in
theorem k_X12_byA_r {N : Nat} {xs : Nat → Int32} (d : Nat) {r : Option Value × mH} {s : mG} {a1 : Int64} {a2 : Int64} {a3 : Int64} {τ : (Int64)} (hJ : F_X12_byA s a1 a2 a3 = some τ) (hC : (fun τ => r = (some (.long τ), (SH, s))) τ) : Rn N xs (d + 0) me256 0 [some (.ref 88), some (.long a1), none, some (.long a2), none, some (.long a3), none] [] (SH, s) r := by
  unfold F_X12_byA at hJ
  refine Rn_sq srt256 0 14 (pc' := 19) (ls' := [some (.ref 88), some (.long a1), none, some (.long a2), none, some (.long a3), none]) (st' := [(.long ((a1 * a2) + (((cl 1000000) - a1) * a3))), (.long ((cl 1000000) * (a1 * a2)))]) (h1 := (SH, s)) rfl ?_
  split at hJ
  · cases hJ
  rename_i h1
  refine Rn_ev srt256 14 rfl rfl rfl (op_ldiv h1) ?_
  rw [← Option.some.inj hJ] at hC
  have hC : r = (some (.long (((cl 1000000) * (a1 * a2)) / ((a1 * a2) + (((cl 1000000) - a1) * a3)))), (SH, s)) := hC
  subst hC
  exact Rn_ret srt256 15 rfl rfl rfl
theorem k_X12_byA {N : Nat} {xs : Nat → Int32} (d : Nat) {s : mG} {a1 : Int64} {a2 : Int64} {a3 : Int64} {τ : (Int64)} (hJ : F_X12_byA s a1 a2 a3 = some τ) : Rn N xs (d + 0) me256 0 [some (.ref 88), some (.long a1), none, some (.long a2), none, some (.long a3), none] [] (SH, s) (some (.long τ), (SH, s)) := k_X12_byA_r d hJ rfl
/-! IsHeInModel.bySign(JII)J -/
theorem srt257 : m_srt mc257 = true := by decide +kernel
def F_X12_bySign (s : mG) (a1 : Int64) (a2 : Int32) (a3 : Int32) : Option (Int64) :=
  if ((c16 143) + ((ci 2) * a2)) < 0 ∨ 1894 ≤ ((c16 143) + ((ci 2) * a2)).toNatClampNeg then none else
  let v2 : Int32 := (s.1 89 ((c16 143) + ((ci 2) * a2)).toNatClampNeg)
  if (((c16 143) + ((ci 2) * a2)) + (ci 1)) < 0 ∨ 1894 ≤ (((c16 143) + ((ci 2) * a2)) + (ci 1)).toNatClampNeg then none else
  let v4 : Int32 := (s.1 89 (((c16 143) + ((ci 2) * a2)) + (ci 1)).toNatClampNeg)
  if a3 = (ci 1) then
    match F_X12_byA s a1 v2.toInt64 v4.toInt64 with
    | none => none
    | some v7 =>
    some v7
  else
    match F_X12_byA s a1 ((c16 1000) - v2).toInt64 ((c16 1000) - v4).toInt64 with
    | none => none
    | some v9 =>
    some v9
set_option maxRecDepth 4000 in
theorem k_X12_bySign_r {N : Nat} {xs : Nat → Int32} (d : Nat) {r : Option Value × mH} {s : mG} {a1 : Int64} {a2 : Int32} {a3 : Int32} {τ : (Int64)} (hJ : F_X12_bySign s a1 a2 a3 = some τ) (hC : (fun τ => r = (some (.long τ), (SH, s))) τ) : Rn N xs (d + 1) me257 0 [some (.ref 88), some (.long a1), none, some (.int a2), some (.int a3), none, none] [] (SH, s) r := by
  unfold F_X12_bySign at hJ
  refine Rn_sq srt257 0 7 (pc' := 11) (ls' := [some (.ref 88), some (.long a1), none, some (.int a2), some (.int a3), none, none]) (st' := [(.int ((c16 143) + ((ci 2) * a2))), (.ref 89)]) (h1 := (SH, s)) rfl ?_
  split at hJ
  · cases hJ
  rename_i h1
  refine Rn_ev srt257 7 rfl rfl rfl (op_ia sh89 h1 (k := ((c16 143) + ((ci 2) * a2)).toNatClampNeg) rfl) ?_
  extract_lets v2 at hJ
  refine Rn_sq srt257 8 10 (pc' := 27) (ls' := [some (.ref 88), some (.long a1), none, some (.int a2), some (.int a3), some (.int v2), none]) (st' := [(.int (((c16 143) + ((ci 2) * a2)) + (ci 1))), (.ref 89)]) (h1 := (SH, s)) rfl ?_
  split at hJ
  · cases hJ
  rename_i h3
  refine Rn_ev srt257 18 rfl rfl rfl (op_ia sh89 h3 (k := (((c16 143) + ((ci 2) * a2)) + (ci 1)).toNatClampNeg) rfl) ?_
  extract_lets v4 at hJ
  refine Rn_sq srt257 19 4 (pc' := (if a3 = (ci 1) then 36 else 50)) (ls' := [some (.ref 88), some (.long a1), none, some (.int a2), some (.int a3), some (.int v2), some (.int v4)]) (st' := []) (h1 := (SH, s)) rfl (Rn_if (fun h5 => ?_) (fun h5 => ?_))
  · rw [if_pos h5] at hJ
    refine Rn_sq srt257 23 6 (pc' := 44) (ls' := [some (.ref 88), some (.long a1), none, some (.int a2), some (.int a3), some (.int v2), some (.int v4)]) (st' := [(.long v4.toInt64), (.long v2.toInt64), (.long a1), (.ref 88)]) (h1 := (SH, s)) rfl ?_
    split at hJ
    · cases hJ
    rename_i v7 h6
    refine Rn_call srt257 29 rfl rfl rfl ⟨Nat.le_of_ble_eq_true rfl, Nat.le_of_ble_eq_true rfl, rfl, Nat.le_of_ble_eq_true rfl⟩ (k_X12_byA (d) h6) (show Rn N xs (d + 1) me257 47 [some (.ref 88), some (.long a1), none, some (.int a2), some (.int a3), some (.int v2), some (.int v4)] [(.long v7)] (SH, s) r from ?_)
    refine Rn_sq srt257 30 1 (pc' := 69) (ls' := [some (.ref 88), some (.long a1), none, some (.int a2), some (.int a3), some (.int v2), some (.int v4)]) (st' := [(.long v7)]) (h1 := (SH, s)) rfl ?_
    rw [← Option.some.inj hJ] at hC
    have hC : r = (some (.long v7), (SH, s)) := hC
    subst hC
    exact Rn_ret srt257 42 rfl rfl rfl
  · rw [if_neg h5] at hJ
    refine Rn_sq srt257 31 10 (pc' := 66) (ls' := [some (.ref 88), some (.long a1), none, some (.int a2), some (.int a3), some (.int v2), some (.int v4)]) (st' := [(.long ((c16 1000) - v4).toInt64), (.long ((c16 1000) - v2).toInt64), (.long a1), (.ref 88)]) (h1 := (SH, s)) rfl ?_
    split at hJ
    · cases hJ
    rename_i v9 h8
    refine Rn_call srt257 41 rfl rfl rfl ⟨Nat.le_of_ble_eq_true rfl, Nat.le_of_ble_eq_true rfl, rfl, Nat.le_of_ble_eq_true rfl⟩ (k_X12_byA (d) h8) (show Rn N xs (d + 1) me257 69 [some (.ref 88), some (.long a1), none, some (.int a2), some (.int a3), some (.int v2), some (.int v4)] [(.long v9)] (SH, s) r from ?_)
    rw [← Option.some.inj hJ] at hC
    have hC : r = (some (.long v9), (SH, s)) := hC
    subst hC
    exact Rn_ret srt257 42 rfl rfl rfl
theorem k_X12_bySign {N : Nat} {xs : Nat → Int32} (d : Nat) {s : mG} {a1 : Int64} {a2 : Int32} {a3 : Int32} {τ : (Int64)} (hJ : F_X12_bySign s a1 a2 a3 = some τ) : Rn N xs (d + 1) me257 0 [some (.ref 88), some (.long a1), none, some (.int a2), some (.int a3), none, none] [] (SH, s) (some (.long τ), (SH, s)) := k_X12_bySign_r d hJ rfl
end
