noncomputable section
/-! A CONDITION: what is left for the class to do -/
def crest (x1 : Int32) (v6 : Int32) (s5 : mG) : Option ((Int32 × mG) ⊕ (Int32 × mG)) :=
  if v6 = 0 then
    b1 (F_X7_readCondition_33 s5) fun τ => some (Sum.inr τ)
  else
    b2 (F_X7_readSum s5) fun v10 s9 =>
    if v10 = 0 then
      b1 (F_X7_readCondition_33 s9) fun τ => some (Sum.inr τ)
    else
      b1 (F_X7_stepOfComparison s9) fun v13 =>
      if v13 = (ci (-1)) then
        b2 (F_X7_refuse (ci 1) s9) fun v17 s16 =>
        if v17 = 0 ∨ v17 = 1 then
          some (Sum.inr (v17, s16))
        else none
      else
        b1 (F_X7_stepOn s9) fun s20 =>
        b2 (F_X7_readSum s20) fun v23 s22 =>
        if v23 = 0 then
          some (Sum.inr ((ci 0), s22))
        else
          b1 (F_X10_push 58 (v13 * (c16 10000)) s22) fun s26 =>
          b1 (F_X7_readClosings s26) fun s28 =>
          if (s28.1 55 14) = (c16 273) then
            F_X7_readCondition_96 x1 (ci 1) s28
          else
            F_X7_readCondition_96 x1 (ci 0) s28
def cend (x1 : Int32) (s28 : mG) : Option ((Int32 × mG) ⊕ (Int32 × mG)) := if (s28.1 55 14) = (c16 273) then F_X7_readCondition_96 x1 (ci 1) s28 else F_X7_readCondition_96 x1 (ci 0) s28
def LC (v : Int32 × mG) : Option (Int32 × mG) := F_X7_readCondition_L12 v.1 v.2
theorem RC_bw {x : Int32} {a : mG} : F_X7_readCondition_L12 x a = bw (F_X7_readCondition_B12 x a) LC := whl_bw _ _
theorem RO_bw {x : Int32} {a : mG} : F_X7_readOpenings_L2 x a = bw (F_X7_readOpenings_B2 x a) (fun v => F_X7_readOpenings_L2 v.1 v.2) := whl_bw _ _
theorem CN_bw {x : Int32} {a : mG} : F_X7_closeNots_L2 x a = bw (F_X7_closeNots_B2 x a) (fun v => F_X7_closeNots_L2 v.1 v.2) := whl_bw _ _
theorem RL_bw {x : Int32} {a : mG} : F_X7_readClosings_L6 x a = bw (F_X7_readClosings_B6 x a) (fun v => F_X7_readClosings_L6 v.1 v.2) := whl_bw _ _
/-- an operand is to be read -/
def KAO (i : Nat) (a : mG) (r : Int32 × mG) : Prop := ∃ x y : Nat, x < i ∧ y < i ∧ b2 (F_X7_readOpenings_L2 (cn y) a) (fun v s => bw (crest (cn x) v s) LC) = some r
/-- an operand is whole -/
def KOC (i o : Nat) (a : mG) (r : Int32 × mG) : Prop := ∃ x y z : Nat, x < i ∧ y < i ∧ z + o ≤ 8 ∧ b1 (F_X7_closeNots_L2 (cn z) a) (fun s2 => b1 (F_X7_readClosings_L6 (cn y) s2) fun s28 => bw (cend (cn x) s28) LC) = some r
/-- .. and each not before it -/
def KD (i : Nat) (a : mG) (r : Int32 × mG) : Prop := ∃ x y : Nat, x < i ∧ y < i ∧ b1 (F_X7_readClosings_L6 (cn y) a) (fun s28 => bw (cend (cn x) s28) LC) = some r
theorem n400 {t : Nat} (h : t < 400) : ¬ c16 400 ≤ cn t := fun q => by
  have q := (cle (x := c16 400) (a := 400) (y := cn t) (by decide) rfl (by omega) (by omega)).mp q
  omega
section CLASS
variable {T : Nat → Int32} {len m : Nat} {B : Nat → Nat} {i : Nat} {a : mG} {r : Int32 × mG} {W : List Int32}
theorem A_plain (hm : i ≤ 400) (K : KAO i a r) (n1 : ¬ a.1 55 14 = c8 40) (n2 : ¬ a.1 55 14 = c16 274) : ∃ x, x < i ∧ bw (crest (cn x) (ci 1) a) LC = some r := by
  obtain ⟨x, y, hx, hy, K⟩ := K
  rw [RO_bw] at K
  unfold F_X7_readOpenings_B2 F_X7_readOpenings_71 at K
  rw [if_neg (n400 (by omega)), if_neg n1, if_neg n2, bw_b1r, b2_some] at K
  exact ⟨x, hx, K⟩
theorem A_full (hm : i ≤ 400) (K : KAO i a r) (hk : a.1 55 14 = c8 40 ∨ a.1 55 14 = c16 274) (h8 : a.1 55 8 = cn 8) : r.1 = ci 0 ∧ r.2.1 55 10 = ci 3 ∧ r.2.1 55 11 = a.1 55 16 := by
  obtain ⟨x, y, hx, hy, K⟩ := K
  rw [RO_bw] at K
  unfold F_X7_readOpenings_B2 F_X7_readOpenings_28 at K
  have e : bw (if a.1 55 8 < c8 8 then b1 (F_X7_hold (a.1 55 14) a) fun s5 => let s6 : mG := (mu s5.1 55 8 ((s5.1 55 8) + (ci 1)), s5.2); b1 (F_X7_stepOn s6) fun s8 => some (Sum.inl ((cn y + ci 1), s8)) else b2 (F_X7_refuse (ci 3) a) fun v11 s10 => if v11 = 0 ∨ v11 = 1 then some (Sum.inr (v11, s10)) else none) (fun v => F_X7_readOpenings_L2 v.1 v.2) = some (ci 0, (mu (mu a.1 55 10 (ci 3)) 55 11 (a.1 55 16), a.2)) := by
    rw [if_neg (by rw [h8]; decide), V_refuse, b2_some, if_pos pbo0, bw_r]
  have K2 : b2 (some (ci 0, ((mu (mu a.1 55 10 (ci 3)) 55 11 (a.1 55 16), a.2) : mG))) (fun v s => bw (crest (cn x) v s) LC) = some r := by
    rcases hk with q | q
    · rw [if_neg (n400 (by omega)), if_pos q, e] at K; exact K
    · rw [if_neg (n400 (by omega)), if_neg (by rw [q]; decide), if_pos q, e] at K; exact K
  rw [b2_some] at K2
  unfold crest F_X7_readCondition_33 at K2
  rw [if_pos c0e0, bw_b1r] at K2
  have K2 := Option.some.inj K2
  subst K2
  exact ⟨rfl, (mu_cellQ (by omega)).trans mu_same, mu_sameQ⟩
theorem A_open (hC : CP T len m B i a) (hi : i < m) (hm : m ≤ 400) (hw : WS W a) (hl : W.length < 64) (ho : opn W < 8) (K : KAO i a r) (hk : a.1 55 14 = c8 40 ∨ a.1 55 14 = c16 274) : ∃ u, CP T len m B (i + 1) u ∧ WS (a.1 55 14 :: W) u ∧ u.1 58 = a.1 58 ∧ u.1 59 = a.1 59 ∧ KAO (i + 1) u r := by
  obtain ⟨x, y, hx, hy, K⟩ := K
  rw [RO_bw] at K
  unfold F_X7_readOpenings_B2 F_X7_readOpenings_28 at K
  have ho8 : a.1 55 8 < c8 8 := (clt (y := c8 8) (b := 8) hw.2.2 (by decide) (by omega) (by omega)).mpr ho
  rw [if_neg (n400 (by omega)), if_pos ho8] at K
  have K2 : b2 (b1 (F_X7_hold (a.1 55 14) a) fun s5 => b1 (F_X7_stepOn (mu s5.1 55 8 ((s5.1 55 8) + (ci 1)), s5.2)) fun s8 => F_X7_readOpenings_L2 (cn y + ci 1) s8) (fun v s => bw (crest (cn x) v s) LC) = some r := by
    rcases hk with q | q
    · rw [if_pos q] at K
      rw [← K]
      congr 1
      rw [bw_b1]
      congr 1
      funext s5
      rw [bw_b1]
      rfl
    · rw [if_neg (by rw [q]; decide), if_pos q] at K
      rw [← K]
      congr 1
      rw [bw_b1]
      congr 1
      funext s5
      rw [bw_b1]
      rfl
  clear K
  rw [b2_b1] at K2
  obtain ⟨s5, e5, K2⟩ := m_b1 K2
  obtain ⟨g1, g2, g3, g4, g5, g6⟩ := V_hold (x := a.1 55 14) hw.1 hw.2.1 hl s5 e5
  rw [b2_b1] at K2
  obtain ⟨s8, e8, K2⟩ := m_b1 K2
  have cw : CW a (mu s5.1 55 8 ((s5.1 55 8) + (ci 1)), s5.2) := CW_tr g6 ⟨fun j h1 _ _ _ => mu_rowQ h1, fun c _ h2 => mu_cellQ (Or.inr h2), fun c _ => congrFun (mu_rowQ (by omega)) c⟩
  obtain ⟨z1, z2⟩ := V_stepOn (CP_CW hC cw) hi s8 e8
  have r67 : s8.1 67 = s5.1 67 := (z2.2.1 67 (by omega)).trans (mu_rowQ (by omega))
  refine ⟨s8, z1, ⟨?_, ?_, ?_⟩, ?_, ?_, x, y + 1, by omega, by omega, ?_⟩
  · rw [r67]; exact g1
  · rw [z2.2.2 7 (by omega) (by omega) (by omega) (by omega)]; exact (mu_cellQ (by omega)).trans g2
  · rw [z2.2.2 8 (by omega) (by omega) (by omega) (by omega)]
    refine mu_sameQ.trans ?_
    rw [g3, hw.2.2, cnu (by omega)]
    show cn (opn W + 1) = cn ((if a.1 55 14 = c8 40 ∨ a.1 55 14 = c16 274 then 1 else 0) + opn W)
    rw [if_pos hk, Nat.add_comm]
  · rw [z2.2.1 58 (by omega)]; exact (mu_rowQ (by omega)).trans g4
  · rw [z2.2.1 59 (by omega)]; exact (mu_rowQ (by omega)).trans g5
  · rw [cnu (by omega)] at K2
    exact K2
theorem O_not {nc : Nat} (hw : WS (c16 274 :: W) a) (hl : W.length < 64) (h58 : C58 a) (h3 : a.1 58 3 = cn nc) (hn : nc < 400) (K : KOC i (opn (c16 274 :: W)) a r) : ∃ u, WS W u ∧ u.1 58 = mu a.1 58 3 (cn (nc + 1)) 58 ∧ u.1 59 = mu a.1 59 nc (ci 90000) 59 ∧ CW a u ∧ KOC i (opn W) u r := by
  have eo : opn (c16 274 :: W) = opn W + 1 := by
    show (if c16 274 = c8 40 ∨ c16 274 = c16 274 then 1 else 0) + opn W = _
    rw [if_pos (Or.inr rfl), Nat.add_comm]
  obtain ⟨x, y, z, hx, hy, hz, K⟩ := K
  rw [eo] at hz
  rw [CN_bw] at K
  unfold F_X7_closeNots_B2 at K
  have h7 : a.1 55 7 = cn (W.length + 1) := hw.2.1
  have h8 : a.1 55 8 = cn (opn W + 1) := by rw [hw.2.2, eo]
  rw [if_neg (fun q => by have q := (cle (x := c8 8) (a := 8) (y := cn z) (by decide) rfl (by omega) (by omega)).mp q; omega), V_last (W := c16 274 :: W) hw.1 hw.2.1 (by simp; omega), b1_some] at K
  rw [show topW (c16 274 :: W) = c16 274 from rfl, if_pos rfl, V_push h58 h3 hn, b1_some, bw_l, cnu (by omega)] at K
  dsimp only at K
  have e7 : mu (mu a.1 58 3 (cn (nc + 1))) 59 nc (ci 90000) 55 7 - ci 1 = cn W.length := by
    rw [mu_row (by omega), mu_row (by omega), h7]
    exact (cn_sub (a := W.length + 1) (b := 1) (by omega) (by omega)).trans (by rw [Nat.add_sub_cancel])
  rw [e7] at K
  have e8 : mu (mu (mu a.1 58 3 (cn (nc + 1))) 59 nc (ci 90000)) 55 7 (cn W.length) 55 8 - ci 1 = cn (opn W) := by
    rw [mu_cell (by omega), mu_row (by omega), mu_row (by omega), h8]
    exact (cn_sub (a := opn W + 1) (b := 1) (by omega) (by omega)).trans (by rw [Nat.add_sub_cancel])
  rw [e8] at K
  generalize hD : mu (mu (mu (mu a.1 58 3 (cn (nc + 1))) 59 nc (ci 90000)) 55 7 (cn W.length)) 55 8 (cn (opn W)) = D at K
  have dr : ∀ j, j ≠ 55 → j ≠ 58 → j ≠ 59 → D j = a.1 j := fun j q1 q2 q3 => by rw [← hD, mu_row q1, mu_row q1, mu_row q3, mu_row q2]
  have d55 : ∀ c, c ≠ 7 → c ≠ 8 → D 55 c = a.1 55 c := fun c q1 q2 => by rw [← hD, mu_cell (Or.inr q2), mu_cell (Or.inr q1), mu_row (by omega), mu_row (by omega)]
  have d58 : D 58 = mu a.1 58 3 (cn (nc + 1)) 58 := by rw [← hD, mu_row (by omega), mu_row (by omega), mu_row (by omega)]
  have d59 : D 59 = mu a.1 59 nc (ci 90000) 59 := by
    rw [← hD, mu_row (by omega), mu_row (by omega)]
    exact mu_row2 (mu_row (by omega))
  refine ⟨(D, a.2), ⟨?_, ?_, ?_⟩, d58, d59, ⟨fun j q1 q2 q3 _ => dr j q1 q2 q3, d55, fun c hc => (congrFun d58 c).trans (mu_cell (Or.inr hc))⟩, x, y, z + 1, hx, hy, by omega, K⟩
  · rw [show ((D, a.2) : mG).1 67 = a.1 67 from dr 67 (by omega) (by omega) (by omega)]; exact hw.1.2
  · show D 55 7 = _
    rw [← hD, mu_cell (by omega), mu_same]
  · show D 55 8 = _
    rw [← hD, mu_same]
theorem O_exit {o : Nat} (hw : WS W a) (hl : W.length ≤ 64) (ht : ¬ topW W = c16 274) (K : KOC i o a r) : KD i a r := by
  obtain ⟨x, y, z, hx, hy, hz, K⟩ := K
  rw [CN_bw] at K
  unfold F_X7_closeNots_B2 at K
  have e : bw (if c8 8 ≤ cn z then some (Sum.inr a) else b1 (F_X7_lastWaiting a) fun v3 => if v3 = c16 274 then b1 (F_X10_push 58 (ci 90000) a) fun s6 => let s7 : mG := (mu s6.1 55 7 ((s6.1 55 7) - (ci 1)), s6.2); let s8 : mG := (mu s7.1 55 8 ((s7.1 55 8) - (ci 1)), s7.2); some (Sum.inl ((cn z + ci 1), s8)) else some (Sum.inr a)) (fun v => F_X7_closeNots_L2 v.1 v.2) = some a := by
    by_cases q : c8 8 ≤ cn z
    · rw [if_pos q]; rfl
    · rw [if_neg q, V_last hw.1 hw.2.1 hl, b1_some, if_neg ht]; rfl
  rw [e, b1_some] at K
  exact ⟨x, y, hx, hy, K⟩
theorem D_exit (hm : i ≤ 400) (hk : ¬ a.1 55 14 = c8 41 ∨ a.1 55 8 = cn 0) (K : KD i a r) : ∃ x, x < i ∧ bw (cend (cn x) a) LC = some r := by
  obtain ⟨x, y, hx, hy, K⟩ := K
  rw [RL_bw] at K
  unfold F_X7_readClosings_B6 at K
  rw [if_neg (n400 (by omega))] at K
  by_cases q : a.1 55 14 = c8 41
  · rw [if_pos q, if_pos (by rw [hk.resolve_left (fun n => n q)]; decide), bw_r, b1_some] at K
    exact ⟨x, hx, K⟩
  · rw [if_neg q, bw_r, b1_some] at K
    exact ⟨x, hx, K⟩
theorem D_close {nc : Nat} {b : mG} {ps : List Int32} (hC : CP T len m B i a) (hi : i < m) (hm : m ≤ 400) (hw : WS (ps ++ c8 40 :: W) a) (hl : (ps ++ c8 40 :: W).length ≤ 60) (hps : ∀ s, s ∈ ps → s = c16 273 ∨ s = c16 272) (hn : nc + ps.length ≤ 400) (ho : opn (ps ++ c8 40 :: W) ≤ 8) (hcd : CodeR nc (ps.map sc) a b) (hk : a.1 55 14 = c8 41) (K : KD i a r) : ∃ u, CP T len m B (i + 1) u ∧ WS W u ∧ CodeR (nc + ps.length) [] u b ∧ KOC (i + 1) (opn W) u r := by
  have eo : ∀ ps : List Int32, (∀ s, s ∈ ps → s = c16 273 ∨ s = c16 272) → opn (ps ++ c8 40 :: W) = opn W + 1 := by
    intro ps
    induction ps with
    | nil =>
      intro _
      show (if c8 40 = c8 40 ∨ c8 40 = c16 274 then 1 else 0) + opn W = _
      rw [if_pos (Or.inl rfl), Nat.add_comm]
    | cons x ps ih =>
      intro h
      show (if x = c8 40 ∨ x = c16 274 then 1 else 0) + opn (ps ++ c8 40 :: W) = _
      rw [ih (fun s hs => h s (List.mem_cons_of_mem _ hs))]
      rcases h x (by simp) with e | e
      · subst e; rw [if_neg (by decide)]; omega
      · subst e; rw [if_neg (by decide)]; omega
  have eo := eo ps hps
  obtain ⟨x, y, hx, hy, K⟩ := K
  rw [RL_bw] at K
  unfold F_X7_readClosings_B6 F_X7_joinWhatWaits at K
  have h8 : a.1 55 8 = cn (opn W + 1) := by rw [hw.2.2, eo]
  rw [if_neg (n400 (by omega)), if_pos hk, if_neg (by
    rw [h8]
    exact fun q => absurd ((cle (x := cn (opn W + 1)) (y := 0) (b := 0) rfl (by decide) (by omega) (by omega)).mp q) (by omega)), bw_b1, b1_b1] at K
  obtain ⟨s7, e7, K⟩ := m_b1 K
  have hcd2 : CodeR nc (ps.map sc ++ []) a b := by rw [List.append_nil]; exact hcd
  have hpl : ps.length ≤ 60 := by simp at hl; omega
  obtain ⟨g1, g2, g3, g4, g5⟩ := V_join (W0 := c8 40 :: W) (rest := []) (x1 := ci 0) (Or.inl rfl) ⟨by show c8 40 ≠ c16 273; decide, fun e => absurd e (by show ¬ c8 40 = c16 272; decide)⟩ ps 0 nc a (fun s hs => (hps s hs).elim Or.inl (fun e => Or.inr ⟨e, rfl⟩)) (by omega) hn (by omega) hw.1 hw.2.1 hcd2 s7 e7
  dsimp only at K
  rw [bw_b1, b1_b1] at K
  obtain ⟨s11, e11, K⟩ := m_b1 K
  have cw : CW a (mu (mu s7.1 55 7 ((s7.1 55 7) - (ci 1))) 55 8 ((mu s7.1 55 7 ((s7.1 55 7) - (ci 1)) 55 8) - (ci 1)), s7.2) := CW_tr g5 ⟨fun j h1 _ _ _ => (mu_rowQ h1).trans (mu_row h1), fun c h1 h2 => (mu_cellQ (Or.inr h2)).trans (mu_cell (Or.inr h1)), fun c _ => (congrFun (mu_rowQ (by omega)) c).trans (congrFun (mu_row (by omega)) c)⟩
  obtain ⟨z1, z2⟩ := V_stepOn (CP_CW hC cw) hi s11 e11
  have e7' : s7.1 55 7 - ci 1 = cn W.length := by
    rw [g2, show (c8 40 :: W).length = W.length + 1 from rfl]
    exact (cn_sub (a := W.length + 1) (b := 1) (by simp at hl; omega) (by simp at hl; omega)).trans (by rw [Nat.add_sub_cancel])
  refine ⟨s11, z1, ⟨?_, ?_, ?_⟩, ?_, x, y + 1, 0, by omega, by omega, by omega, ?_⟩
  · rw [z2.2.1 67 (by omega), show ((mu (mu s7.1 55 7 ((s7.1 55 7) - (ci 1))) 55 8 ((mu s7.1 55 7 ((s7.1 55 7) - (ci 1)) 55 8) - (ci 1)), s7.2) : mG).1 67 = s7.1 67 from (mu_rowQ (by omega)).trans (mu_row (by omega))]
    exact g1.2
  · rw [z2.2.2 7 (by omega) (by omega) (by omega) (by omega)]
    exact (mu_cellQ (by omega)).trans (mu_same.trans e7')
  · rw [z2.2.2 8 (by omega) (by omega) (by omega) (by omega)]
    refine mu_sameQ.trans ?_
    rw [mu_cell (by omega), g3, h8]
    exact (cn_sub (a := opn W + 1) (b := 1) (by omega) (by omega)).trans (by rw [Nat.add_sub_cancel])
  · have e58 : s11.1 58 = s7.1 58 := (z2.2.1 58 (by omega)).trans ((mu_rowQ (by omega)).trans (mu_row (by omega)))
    have e59 : s11.1 59 = s7.1 59 := (z2.2.1 59 (by omega)).trans ((mu_rowQ (by omega)).trans (mu_row (by omega)))
    unfold CodeR C58
    rw [e58, e59]
    exact g4
  · unfold F_X7_closeNots at K
    rw [bw_b1, b1_b1, cnu (by omega)] at K
    exact K
/-- and, or: one more operand -/
theorem E_more {nc x : Nat} {b : mG} {ps : List Int32} {rest : List Nat} {x1 : Int32} (hC : CP T len m B i a) (hi : i < m) (hm : m ≤ 400) (hx : x < i) (hw : WS (ps ++ W) a) (hl : (ps ++ W).length ≤ 60) (hlW : W.length < 60) (hx1 : (a.1 55 14 = c16 273 ∧ x1 = ci 1) ∨ (a.1 55 14 = c16 272 ∧ x1 = ci 0)) (hps : ∀ s, s ∈ ps → s = c16 273 ∨ (s = c16 272 ∧ x1 = ci 0)) (hW : topW W ≠ c16 273 ∧ (topW W = c16 272 → x1 = ci 1)) (hn : nc + ps.length ≤ 400) (hcd : CodeR nc (ps.map sc ++ rest) a b) (K : bw (cend (cn x) a) LC = some r) : ∃ u, CP T len m B (i + 1) u ∧ WC (a.1 55 14 :: W) (u.1 67) ∧ u.1 55 7 = cn (a.1 55 14 :: W).length ∧ u.1 55 8 = a.1 55 8 ∧ CodeR (nc + ps.length) rest u b ∧ KAO (i + 1) u r := by
  have K2 : bw (F_X7_readCondition_96 (cn x) x1 a) LC = some r := by
    unfold cend at K
    rcases hx1 with ⟨q1, q2⟩ | ⟨q1, q2⟩
    · rw [if_pos q1] at K; rw [q2]; exact K
    · rw [if_neg (by rw [q1]; decide)] at K; rw [q2]; exact K
  clear K
  unfold F_X7_readCondition_96 F_X7_joinWhatWaits F_X7_readCondition_140 at K2
  rw [bw_b1] at K2
  obtain ⟨s31, e31, K2⟩ := m_b1 K2
  have hpl : ps.length ≤ 60 := by simp at hl; omega
  obtain ⟨g1, g2, g3, g4, g5⟩ := V_join (W0 := W) (rest := rest) (x1 := x1) (hx1.elim (fun q => Or.inr q.2) (fun q => Or.inl q.2)) hW ps 0 nc a hps (by omega) hn (by omega) hw.1 hw.2.1 hcd s31 e31
  have ek : s31.1 55 14 = a.1 55 14 := g5.2.1 14 (by omega) (by omega)
  have K3 : b1 (F_X7_hold (a.1 55 14) s31) (fun s34 => b1 (F_X7_stepOn s34) fun s36 => F_X7_readCondition_L12 (cn x + ci 1) s36) = some r := by
    rcases hx1 with ⟨q1, q2⟩ | ⟨q1, q2⟩
    · rw [ek, if_pos q1, bw_b1] at K2
      rw [← K2]
      congr 1
      funext s34
      rw [bw_b1]
      rfl
    · rw [ek, if_neg (by rw [q1]; decide), if_pos q1, bw_b1] at K2
      rw [← K2]
      congr 1
      funext s34
      rw [bw_b1]
      rfl
  obtain ⟨s34, e34, K3⟩ := m_b1 K3
  obtain ⟨f1, f2, f3, f4, f5, f6⟩ := V_hold (x := a.1 55 14) g1 g2 (by omega) s34 e34
  obtain ⟨s36, e36, K3⟩ := m_b1 K3
  obtain ⟨z1, z2⟩ := V_stepOn (CP_CW hC (CW_tr g5 f6)) hi s36 e36
  refine ⟨s36, z1, ?_, ?_, ?_, ?_, x + 1, 0, by omega, by omega, ?_⟩
  · rw [z2.2.1 67 (by omega)]; exact f1
  · rw [z2.2.2 7 (by omega) (by omega) (by omega) (by omega)]; exact f2
  · rw [z2.2.2 8 (by omega) (by omega) (by omega) (by omega), f3, g3]
  · unfold CodeR C58
    rw [z2.2.1 58 (by omega), z2.2.1 59 (by omega), f4, f5]
    exact g4
  · rw [cnu (by omega), RC_bw] at K3
    unfold F_X7_readCondition_B12 F_X7_readOpenings at K3
    rw [if_neg (n400 (by omega)), bw_b2] at K3
    exact K3
/-- no more -/
theorem E_done {nc x : Nat} {b : mG} {ps : List Int32} (hC : CP T len m B i a) (hw : WS (ps ++ W) a) (hl : (ps ++ W).length ≤ 60) (n1 : ¬ a.1 55 14 = c16 273) (n2 : ¬ a.1 55 14 = c16 272) (hps : ∀ s, s ∈ ps → s = c16 273 ∨ s = c16 272) (hW : topW W ≠ c16 273 ∧ topW W ≠ c16 272) (hn : nc + ps.length ≤ 400) (hcd : CodeR nc (ps.map sc) a b) (K : bw (cend (cn x) a) LC = some r) : (a.1 55 8 = cn 0 ∧ r.1 = ci 1 ∧ CP T len m B i r.2 ∧ CodeR (nc + ps.length) [] r.2 b) ∨ (¬ a.1 55 8 = cn 0 ∧ r.1 = ci 0 ∧ r.2.1 55 10 = ci 1 ∧ r.2.1 55 11 = a.1 55 16) := by
  unfold cend at K
  rw [if_neg n1] at K
  unfold F_X7_readCondition_96 F_X7_joinWhatWaits F_X7_readCondition_134 at K
  rw [bw_b1] at K
  obtain ⟨s31, e31, K⟩ := m_b1 K
  have hcd2 : CodeR nc (ps.map sc ++ []) a b := by rw [List.append_nil]; exact hcd
  have hpl : ps.length ≤ 60 := by simp at hl; omega
  obtain ⟨g1, g2, g3, g4, g5⟩ := V_join (W0 := W) (rest := []) (x1 := ci 0) (Or.inl rfl) ⟨hW.1, fun e => absurd e hW.2⟩ ps 0 nc a (fun s hs => (hps s hs).elim Or.inl (fun e => Or.inr ⟨e, rfl⟩)) (by omega) hn (by omega) hw.1 hw.2.1 hcd2 s31 e31
  have ek : s31.1 55 14 = a.1 55 14 := g5.2.1 14 (by omega) (by omega)
  rw [ek, if_neg n1, if_neg n2, g3] at K
  by_cases q : a.1 55 8 = 0
  · rw [if_pos q, bw_b1r] at K
    have K := Option.some.inj K
    subst K
    exact Or.inl ⟨q.trans (by decide), rfl, CP_CW hC g5, g4⟩
  · rw [if_neg q, V_refuse, b2_some, if_pos c0e0, bw_r] at K
    have K := Option.some.inj K
    subst K
    refine Or.inr ⟨fun e => q (e.trans (by decide)), rfl, (mu_cellQ (by omega)).trans mu_same, mu_sameQ.trans (g5.2.1 16 (by omega) (by omega))⟩
end CLASS
end
