noncomputable section
/-! A CONDITION OF THE LAW: calls within calls there, a row of what waits here -/
def WC : List Int32 → (Nat → Int32) → Prop
  | [], _ => True
  | x :: W, c => c W.length = x ∧ WC W c
def opn : List Int32 → Nat
  | [] => 0
  | x :: W => (if x = c8 40 ∨ x = c16 274 then 1 else 0) + opn W
theorem mu_row2 {D E : Nat → Nat → Int32} {i k : Nat} {v : Int32} (h : D i = E i) : mu D i k v i = mu E i k v i := by
  funext j
  show mu D i k v i j = mu E i k v i j
  rw [mu_ap, mu_ap, h]
theorem WC_cong : ∀ (W : List Int32) {c d : Nat → Int32}, (∀ j, j < W.length → d j = c j) → WC W c → WC W d := by
  intro W
  induction W with
  | nil => intro _ _ _ _; trivial
  | cons x W ih =>
    intro c d h k
    exact ⟨(h _ (by simp)).trans k.1, ih (fun j hj => h j (by simp; omega)) k.2⟩
def RH (b u : mG) : Prop := u.2 = b.2 ∧ (∀ j, j ≠ 88 → j ≠ 93 → u.1 j = b.1 j) ∧ ∀ c, c ≠ 13 → c ≠ 16 → c ≠ 17 → c ≠ 18 → c ≠ 19 → c ≠ 20 → c ≠ 21 → c ≠ 23 → u.1 88 c = b.1 88 c
theorem RH_tr {a u v : mG} (h : RH a u) (k : RH u v) : RH a v := ⟨k.1.trans h.1, fun j h1 h2 => (k.2.1 j h1 h2).trans (h.2.1 j h1 h2), fun c h1 h2 h3 h4 h5 h6 h7 h8 => (k.2.2 c h1 h2 h3 h4 h5 h6 h7 h8).trans (h.2.2 c h1 h2 h3 h4 h5 h6 h7 h8)⟩
theorem RH_RG {b u : mG} (h : RG b u) : RH b u := ⟨h.1, h.2.1, fun c h1 h2 h3 h4 h5 h6 h7 _ => h.2.2 c h1 h2 h3 h4 h5 h6 h7⟩
theorem RH_23 {b : mG} {v : Int32} : RH b (mu b.1 88 23 v, b.2) := ⟨rfl, fun j h1 _ => mu_rowQ h1, fun c _ _ _ _ _ _ _ h8 => mu_cellQ (Or.inr h8)⟩
section COND
variable {T : Nat → Int32} {len m : Nat} {B : Nat → Nat}
def WS (W : List Int32) (a : mG) : Prop := WC W (a.1 67) ∧ a.1 55 7 = cn W.length ∧ a.1 55 8 = cn (opn W)
def SC (T : Nat → Int32) (len m : Nat) (B : Nat → Nat) (i nc : Nat) (pend : List Nat) (W : List Int32) (a b : mG) : Prop := CP T len m B i a ∧ RP T len 0 m B i b ∧ CodeR nc pend a b ∧ WS W a ∧ b.1 88 23 = cn (opn W) ∧ opn W ≤ 8 ∧ nc + W.length ≤ i
/-! kinds -/
theorem K_or {kc kr : Int32} (h : KP 0 kc kr) : kr = ci 4 ↔ kc = c16 272 := KP_iff (v := 4) (z := 272) (by decide) (by decide) (by decide +kernel) h
theorem K_and {kc kr : Int32} (h : KP 0 kc kr) : kr = ci 5 ↔ kc = c16 273 := KP_iff (v := 5) (z := 273) (by decide) (by decide) (by decide +kernel) h
theorem K_not {kc kr : Int32} (h : KP 0 kc kr) : kr = c8 6 ↔ kc = c16 274 := KP_iff (v := 6) (z := 274) (by decide) (by decide) (by decide +kernel) h
theorem K_open {kc kr : Int32} (h : KP 0 kc kr) : kr = c16 140 ↔ kc = c8 40 := KP_iff (v := 140) (z := 40) (by decide) (by decide) (by decide +kernel) h
theorem K_close {kc kr : Int32} (h : KP 0 kc kr) : kr = c16 141 ↔ kc = c8 41 := KP_iff (v := 141) (z := 41) (by decide) (by decide) (by decide +kernel) h
theorem K_below {kc kr : Int32} (h : KP 0 kc kr) : kr = c16 160 ↔ kc = ci 60 := KP_iff (v := 160) (z := 60) (by decide) (by decide) (by decide +kernel) h
theorem K_same {kc kr : Int32} (h : KP 0 kc kr) : kr = c16 161 ↔ kc = ci 61 := KP_iff (v := 161) (z := 61) (by decide) (by decide) (by decide +kernel) h
theorem K_above {kc kr : Int32} (h : KP 0 kc kr) : kr = c16 162 ↔ kc = ci 62 := KP_iff (v := 162) (z := 62) (by decide) (by decide) (by decide +kernel) h
/-! the row of what waits -/
theorem V_cell67 {s : mG} {k : Nat} (h : k < 64) : F_X11_cell 67 s (cn k) = some (s.1 67 k) := by
  have h1 : mal 67 = some 64 := by decide +kernel
  have h4 : mia s 67 (cn k) = some (s.1 67 (cn k).toNatClampNeg) := by
    unfold mia
    rw [show SH[67]? = some (.inl (0, 64, [])) by decide +kernel]
    simp only [if_neg (cn_ix h (by omega))]
  unfold F_X11_cell
  rw [if_neg (cn_nn (by omega)), h1, b1_some, if_neg (fun q => absurd ((cn_le (by omega) (by omega)).mp q) (by omega)), h4, b1_some, cn_nat (by omega)]
theorem V_put67 {s : mG} {k : Nat} {v : Int32} (h : k < 64) : F_X11_put 67 (cn k) v s = some (mu s.1 67 k v, s.2) := by
  have h1 : mal 67 = some 64 := by decide +kernel
  have h2 : SH[67]? = some (.inl (0, 64, [])) := by decide +kernel
  unfold F_X11_put
  rw [if_neg (cn_nn (by omega)), h1, b1_some, if_neg (fun q => absurd ((cn_le (by omega) (by omega)).mp q) (by omega)), h2]
  simp only [bs]
  rw [if_neg (cn_ix h (by omega)), cn_nat (by omega)]
def topW : List Int32 → Int32
  | [] => ci (-1)
  | x :: _ => x
theorem V_last {a : mG} {W : List Int32} (h1 : WC W (a.1 67)) (h2 : a.1 55 7 = cn W.length) (h3 : W.length ≤ 64) : F_X7_lastWaiting a = some (topW W) := by
  unfold F_X7_lastWaiting
  rw [h2]
  cases W with
  | nil => rw [if_pos (by decide)]; rfl
  | cons x W =>
    have hl : (x :: W).length = W.length + 1 := rfl
    rw [hl] at h3 ⊢
    rw [if_neg (fun q => absurd ((cle (x := cn (W.length + 1)) (y := 0) (b := 0) rfl (by decide) (by omega) (by omega)).mp q) (by omega)), show cn (W.length + 1) - ci 1 = cn W.length from (cn_sub (a := W.length + 1) (b := 1) (by omega) (by omega)).trans (by rw [Nat.add_sub_cancel]), V_cell67 (by omega), b1_some, h1.1]
    rfl
/-- what holding, popping, laying leave of the class -/
def CW (a u : mG) : Prop := (∀ j, j ≠ 55 → j ≠ 58 → j ≠ 59 → j ≠ 67 → u.1 j = a.1 j) ∧ (∀ c, c ≠ 7 → c ≠ 8 → u.1 55 c = a.1 55 c) ∧ ∀ c, c ≠ 3 → u.1 58 c = a.1 58 c
theorem CW_tr {a u v : mG} (h : CW a u) (k : CW u v) : CW a v := ⟨fun j h1 h2 h3 h4 => (k.1 j h1 h2 h3 h4).trans (h.1 j h1 h2 h3 h4), fun c h1 h2 => (k.2.1 c h1 h2).trans (h.2.1 c h1 h2), fun c hc => (k.2.2 c hc).trans (h.2.2 c hc)⟩
theorem CW_rfl {a : mG} : CW a a := ⟨fun _ _ _ _ _ => rfl, fun _ _ _ => rfl, fun _ _ => rfl⟩
theorem CP_CW {i : Nat} {a u : mG} (h : CP T len m B i a) (k : CW a u) : CP T len m B i u := by
  obtain ⟨h1, h2, h3, h4, h5, h6⟩ := h
  have e66 : u.1 66 = a.1 66 := k.1 66 (by omega) (by omega) (by omega) (by omega)
  refine ⟨TKA_row h1 (k.1 65 (by omega) (by omega) (by omega) (by omega)) e66, h2, ?_, ?_, ?_, ?_⟩
  · rw [k.2.1 12 (by omega) (by omega)]; exact h3
  · rw [k.2.1 14 (by omega) (by omega), e66]; exact h4
  · rw [k.2.1 15 (by omega) (by omega), e66]; exact h5
  · rw [k.2.1 16 (by omega) (by omega), e66]; exact h6
theorem V_hold {a : mG} {W : List Int32} {x : Int32} (h1 : WC W (a.1 67)) (h2 : a.1 55 7 = cn W.length) (h3 : W.length < 64) : pk (F_X7_hold x a) (fun u => WC (x :: W) (u.1 67) ∧ u.1 55 7 = cn (x :: W).length ∧ u.1 55 8 = a.1 55 8 ∧ u.1 58 = a.1 58 ∧ u.1 59 = a.1 59 ∧ CW a u) := by
  unfold F_X7_hold
  rw [h2, V_put67 h3, b1_some]
  refine pk_some ⟨⟨?_, WC_cong W (fun j hj => ?_) h1⟩, ?_, ?_, ?_, ?_, fun j q1 q2 q3 q4 => ?_, fun c q1 q2 => ?_, fun c _ => ?_⟩
  all_goals dsimp only
  · rw [mu_row (by omega), mu_same]
  · rw [mu_row (by omega), mu_cell (by omega)]
  · rw [mu_same, mu_row (by omega), h2, cnu (by omega)]; rfl
  · rw [mu_cell (by omega), mu_row (by omega)]
  · rw [mu_row (by omega), mu_row (by omega)]
  · rw [mu_row (by omega), mu_row (by omega)]
  · rw [mu_row q1, mu_row q4]
  · rw [mu_cell (by omega), mu_row (by omega)]
  · rw [mu_row (by omega), mu_row (by omega)]
/-! laying what waits -/
def sc (x : Int32) : Nat := if x = c16 273 then 31 else 32
theorem CodeR_pop {nc p : Nat} {rest : List Nat} {a b u : mG} {x : Int32} (h : CodeR nc (p :: rest) a b) (he : ∀ v, EN x (cn p) v) (h58 : u.1 58 = mu a.1 58 3 (cn (nc + 1)) 58) (h59 : u.1 59 = mu a.1 59 nc x 59) : CodeR (nc + 1) rest u b := by
  obtain ⟨⟨h0, h1⟩, h3, h13, hE, hP⟩ := h
  refine ⟨⟨?_, ?_⟩, ?_, ?_, fun j hj => ?_, fun j hj => ?_⟩
  · rw [h58, mu_cell (by omega)]; exact h0
  · rw [h58, mu_cell (by omega)]; exact h1
  · rw [h58, mu_same]
  · rw [h13]; congr 1; simp; omega
  · rw [h59]
    by_cases hjn : j = nc
    · subst hjn
      have e := hP 0 (by simp)
      rw [Nat.add_zero] at e
      rw [mu_same, e]; exact he _
    · rw [mu_cell (by omega)]; exact hE j (by omega)
  · have e := hP (j + 1) (by simp; omega)
    rw [show nc + 1 + j = nc + (j + 1) by omega]
    exact e
theorem EN_sc {x v : Int32} (h : x = c16 273 ∨ x = c16 272) : EN ((if x = c16 273 then c8 10 else c8 11) * c16 10000) (cn (sc x)) v := by
  rcases h with e | e
  · subst e; exact EN_op (q := (31, 10)) (by decide) (by decide) (by decide)
  · subst e; exact EN_op (q := (32, 11)) (by decide) (by decide) (by decide)
theorem JW_bw {x1 x2 : Int32} {a : mG} : F_X7_joinWhatWaits_L2 x1 x2 a = bw (F_X7_joinWhatWaits_B2 x1 x2 a) (fun v => F_X7_joinWhatWaits_L2 v.1 v.2.1 v.2.2) := whl_bw _ _
/-- what joins: ps, down to W0 -/
theorem V_join {b : mG} {W0 : List Int32} {rest : List Nat} {x1 : Int32} (hx : x1 = ci 0 ∨ x1 = ci 1) (hW : topW W0 ≠ c16 273 ∧ (topW W0 = c16 272 → x1 = ci 1)) : ∀ (ps : List Int32) (t nc : Nat) (a : mG), (∀ s, s ∈ ps → s = c16 273 ∨ (s = c16 272 ∧ x1 = ci 0)) → t + ps.length < 64 → nc + ps.length ≤ 400 → (ps ++ W0).length ≤ 64 → WC (ps ++ W0) (a.1 67) → a.1 55 7 = cn (ps ++ W0).length → CodeR nc (ps.map sc ++ rest) a b → pk (F_X7_joinWhatWaits_L2 x1 (cn t) a) (fun u => WC W0 (u.1 67) ∧ u.1 55 7 = cn W0.length ∧ u.1 55 8 = a.1 55 8 ∧ CodeR (nc + ps.length) rest u b ∧ CW a u) := by
  intro ps
  induction ps with
  | nil =>
    intro t nc a _ ht _ hl h1 h2 h3
    rw [JW_bw]
    unfold F_X7_joinWhatWaits_B2
    rw [if_neg (fun q => by have q := (cle (x := c8 64) (a := 64) (y := cn t) (by decide) rfl (by omega) (by omega)).mp q; simp at ht; omega), V_last (W := W0) h1 h2 hl, b1_some, if_neg hW.1]
    by_cases ho : topW W0 = c16 272
    · rw [if_pos ho, hW.2 ho, if_neg c1n0, bw_r]
      exact pk_some ⟨h1, h2, rfl, h3, CW_rfl⟩
    · rw [if_neg ho, bw_r]
      exact pk_some ⟨h1, h2, rfl, h3, CW_rfl⟩
  | cons x ps ih =>
    intro t nc a hps ht hn hl h1 h2 h3
    have hx0 := hps x (by simp)
    have hlc : (x :: ps ++ W0).length = (ps ++ W0).length + 1 := rfl
    have hpc : (x :: ps).length = ps.length + 1 := rfl
    rw [hpc] at ht hn
    rw [hlc] at hl h2
    rw [JW_bw]
    unfold F_X7_joinWhatWaits_B2 F_X7_joinWhatWaits_32
    rw [if_neg (fun q => by have q := (cle (x := c8 64) (a := 64) (y := cn t) (by decide) rfl (by omega) (by omega)).mp q; omega), V_last (W := x :: (ps ++ W0)) h1 h2 (by rw [show (x :: (ps ++ W0)).length = (ps ++ W0).length + 1 from rfl]; omega), b1_some]
    have ht : topW (x :: (ps ++ W0)) = x := rfl
    rw [ht]
    -- one is laid
    have go : pk (bw (F_X7_joinWhatWaits_50 x1 (cn t) (if x = c16 273 then c8 10 else c8 11) a) (fun v => F_X7_joinWhatWaits_L2 v.1 v.2.1 v.2.2)) (fun u => WC W0 (u.1 67) ∧ u.1 55 7 = cn W0.length ∧ u.1 55 8 = a.1 55 8 ∧ CodeR (nc + (x :: ps).length) rest u b ∧ CW a u) := by
      unfold F_X7_joinWhatWaits_50
      have hC : C58 a := h3.1
      rw [V_push hC h3.2.1 (by omega), b1_some, bw_l, cnu (by omega)]
      dsimp only
      have e7 : mu (mu a.1 58 3 (cn (nc + 1))) 59 nc ((if x = c16 273 then c8 10 else c8 11) * c16 10000) 55 7 - ci 1 = cn (ps ++ W0).length := by
        rw [mu_row (by omega), mu_row (by omega), h2]
        exact (cn_sub (a := (ps ++ W0).length + 1) (b := 1) (by omega) (by omega)).trans (by rw [Nat.add_sub_cancel])
      rw [e7]
      generalize hD : mu (mu (mu a.1 58 3 (cn (nc + 1))) 59 nc ((if x = c16 273 then c8 10 else c8 11) * c16 10000)) 55 7 (cn (ps ++ W0).length) = D
      have dr : ∀ j, j ≠ 55 → j ≠ 58 → j ≠ 59 → D j = a.1 j := fun j q1 q2 q3 => by rw [← hD, mu_row q1, mu_row q3, mu_row q2]
      have d55 : ∀ c, c ≠ 7 → D 55 c = a.1 55 c := fun c q1 => by rw [← hD, mu_cell (Or.inr q1), mu_row (by omega), mu_row (by omega)]
      have d7 : D 55 7 = cn (ps ++ W0).length := by rw [← hD, mu_same]
      have d58 : D 58 = mu a.1 58 3 (cn (nc + 1)) 58 := by rw [← hD, mu_row (by omega), mu_row (by omega)]
      have d59 : D 59 = mu a.1 59 nc ((if x = c16 273 then c8 10 else c8 11) * c16 10000) 59 := by
        rw [← hD, mu_row (by omega)]
        exact mu_row2 (mu_row (by omega))
      have cw : CW a (D, a.2) := ⟨fun j q1 q2 q3 _ => dr j q1 q2 q3, fun c q1 _ => d55 c q1, fun c hc => (congrFun d58 c).trans (mu_cell (Or.inr hc))⟩
      have hc2 : CodeR (nc + 1) (ps.map sc ++ rest) (D, a.2) b := CodeR_pop h3 (fun v => EN_sc (hx0.elim Or.inl (fun q => Or.inr q.1))) d58 d59
      have wc2 : WC (ps ++ W0) (((D, a.2) : mG).1 67) := by
        rw [show ((D, a.2) : mG).1 67 = a.1 67 from dr 67 (by omega) (by omega) (by omega)]
        exact h1.2
      refine fun u hu => ?_
      obtain ⟨g1, g2, g3, g4, g5⟩ := ih (t + 1) (nc + 1) (D, a.2) (fun s hs => hps s (List.mem_cons_of_mem _ hs)) (by omega) (by omega) (by omega) wc2 d7 hc2 u hu
      exact ⟨g1, g2, g3.trans (d55 8 (by omega)), by rw [hpc, show nc + (ps.length + 1) = nc + 1 + ps.length by omega]; exact g4, CW_tr cw g5⟩
    rcases hx0 with e | ⟨e, e0⟩
    · rw [if_pos e, if_pos e]
      rw [if_pos e] at go
      exact go
    · have ne : ¬ x = c16 273 := by rw [e]; decide
      rw [if_neg ne, if_pos e, e0, if_pos c0e0, if_neg ne]
      rw [if_neg ne, e0] at go
      exact go
end COND
end
