noncomputable section
/-! MOVES IN AN HOUR; who carries; who stays away -/
def mSum (w : Nat → Int32) (h : Int32) : Nat → Int32
  | 0 => ci 0
  | k + 1 => mSum w h k + LV w (FAc w k h (w 113) (w (27 + k))) (if w (3 + k) = ci 1 then 1 else 0)
theorem V_movesC {w : Nat → Int32} {n nc : Nat} {a : mG} {c h : Int32} (K : HK w n nc a) (hc : c = rm h (c8 24)) (hd : h / c8 24 = w 0 / c8 24) : pk (F_X1_movesAt c a) (fun τ => τ.1 = mSum w h n ∧ ∀ j, j ≠ 69 → j ≠ 70 → τ.2.1 j = a.1 j) := by
  have hn := K.2.2.1
  unfold F_X1_movesAt F_X1_movesAt_L4
  refine pk_whl (fun v => v.1 = c ∧ ∃ g, g ≤ n ∧ v.2.1 = mSum w h g ∧ v.2.2.1 = cn g ∧ ∀ j, j ≠ 69 → j ≠ 70 → v.2.2.2.1 j = a.1 j) ⟨rfl, 0, Nat.zero_le _, rfl, rfl, fun _ _ _ => rfl⟩ (fun v hv => ?_)
  obtain ⟨x1, x2, x3, s⟩ := v
  obtain ⟨q1o, g, hg, q2o, q3o, ro⟩ := hv
  have q1 : c = x1 := (show x1 = c from q1o).symm
  have q2 : x2 = mSum w h g := q2o
  have q3 : x3 = cn g := q3o
  have r : ∀ j, j ≠ 69 → j ≠ 70 → s.1 j = a.1 j := ro
  subst q1; subst q2; subst q3
  have Ks : HK w n nc s := HK_row K (fun j h1 h2 _ => r j h1 h2)
  unfold F_X1_movesAt_B4
  dsimp only
  rw [Ks.2.1]
  by_cases hgn : n ≤ g
  · have eg : g = n := by omega
    rw [if_pos ((cn_le (by omega) (by omega)).mpr hgn)]
    exact pk_some (show mSum w h g = mSum w h n ∧ _ from ⟨by rw [eg], r⟩)
  · rw [if_neg (fun q => hgn ((cn_le (by omega) (by omega)).mp q))]
    refine pk_b1 (V_faceK Ks (by omega)) (fun u qu => ?_)
    obtain ⟨k1, r1⟩ := qu
    rw [V_suppose (k := 3) (e := ci 3) rfl (by decide), b1_some]
    have k2 : KNc w g h (w 113) (w (27 + g)) ((mu u.1 69 3 c, u.2) : mG) := KN_hour k1 hc hd
    have Ku : HK w n nc ((mu u.1 69 3 c, u.2) : mG) := HK_row Ks (fun j h1 _ _ => (mu_rowQ h1).trans (r1 j h1))
    unfold F_X2_isOut F_X1_movesAt_56
    rw [show (1 + 1 : Nat) = 2 from rfl, V_atG (c := 2) (k := ci 2) Ku.1.1 Ku.2.1 hn (by omega) (by decide) rfl, b1_some, show ixG g 2 = 3 + g from rfl]
    have st : ∀ x, x < 6 → (if w (3 + g) = ci 1 then 1 else 0) = x → pk (b2 (F_X3_tells (cn x) ((mu u.1 69 3 c, u.2) : mG)) fun v11 s10 => some (Sum.inl (c, mSum w h g + v11, cn g + ci 1, s10)) : Option ((Int32 × Int32 × Int32 × mG) ⊕ (Int32 × mG))) (se (fun v : Int32 × Int32 × Int32 × mG => v.1 = c ∧ ∃ g, g ≤ n ∧ v.2.1 = mSum w h g ∧ v.2.2.1 = cn g ∧ ∀ j, j ≠ 69 → j ≠ 70 → v.2.2.2.1 j = a.1 j) (fun τ : Int32 × mG => τ.1 = mSum w h n ∧ ∀ j, j ≠ 69 → j ≠ 70 → τ.2.1 j = a.1 j)) := fun x hx ex => by
      refine pk_b2 (V_tellsK (x := x) Ku k2 hx) (fun v t qt => ?_)
      obtain ⟨t1o, t2o⟩ := qt
      have t1 : v = LV w (FAc w g h (w 113) (w (27 + g))) x := t1o
      have t2 : ∀ j, j ≠ 70 → t.1 j = mu u.1 69 3 c j := t2o
      refine pk_some (show _ ∧ ∃ g', _ from ⟨rfl, g + 1, by omega, ?_, cnu (by omega), fun j h1 h2 => (t2 j h2).trans ((mu_row h1).trans ((r1 j h1).trans (r j h1 h2)))⟩)
      show mSum w h g + v = mSum w h g + LV w (FAc w g h (w 113) (w (27 + g))) (if w (3 + g) = ci 1 then 1 else 0)
      rw [ex, t1]
    by_cases ho : w (3 + g) = ci 1
    · rw [if_pos ho, b1_some, if_neg c1n0]
      exact st 1 (by decide) (if_pos ho)
    · rw [if_neg ho, b1_some, if_pos c0e0]
      exact st 0 (by decide) (if_neg ho)
theorem V_movesR {b : mG} {n nc : Nat} {h : Int32} (L : LTy nc (b.1 89)) (g2 : b.1 89 112 = cn n) (hn : n ≤ 12) : pk (F_X12_movesIn h b) (fun τ => τ.1 = mSum (b.1 89) h n ∧ ∀ j, j ≠ 96 → j ≠ 97 → τ.2.1 j = b.1 j) := by
  unfold F_X12_movesIn F_X12_movesIn_L4
  refine pk_whl (fun v => v.1 = h ∧ ∃ g, g ≤ n ∧ v.2.1 = mSum (b.1 89) h g ∧ v.2.2.1 = cn g ∧ ∀ j, j ≠ 96 → j ≠ 97 → v.2.2.2.1 j = b.1 j) ⟨rfl, 0, Nat.zero_le _, rfl, rfl, fun _ _ _ => rfl⟩ (fun v hv => ?_)
  obtain ⟨x1, x2, x3, s⟩ := v
  obtain ⟨q1o, g, hg, q2o, q3o, ro⟩ := hv
  have q1 : h = x1 := (show x1 = h from q1o).symm
  have q2 : x2 = mSum (b.1 89) h g := q2o
  have q3 : x3 = cn g := q3o
  have r : ∀ j, j ≠ 96 → j ≠ 97 → s.1 j = b.1 j := ro
  subst q1; subst q2; subst q3
  have e89 : s.1 89 = b.1 89 := r 89 (by decide) (by decide)
  unfold F_X12_movesIn_B4 F_X12_movesIn_36
  dsimp only
  rw [e89, g2]
  by_cases hgn : n ≤ g
  · have eg : g = n := by omega
    rw [if_pos ((cn_le (by omega) (by omega)).mpr hgn)]
    exact pk_some (show mSum (b.1 89) h g = mSum (b.1 89) h n ∧ _ from ⟨by rw [eg], r⟩)
  · rw [if_neg (fun q => hgn ((cn_le (by omega) (by omega)).mp q)), show ci 3 + cn g = cn (3 + g) from cn_add (a := 3) (by omega), cn_nat (n := 3 + g) (by omega), show c8 27 + cn g = cn (27 + g) from cn_add (a := 27) (by omega), cn_nat (n := 27 + g) (by omega), show c8 21 = cn (20 + 1) by decide, show c8 20 = cn (20 + 0) by decide]
    refine pk_nn ?_
    have st : ∀ x, x < 6 → (if b.1 89 (3 + g) = ci 1 then 1 else 0) = x → pk (b2 (F_X12_saysIn (cn (20 + x)) (cn g) h (b.1 89 113) (b.1 89 (27 + g)) s) fun v7 s6 => some (Sum.inl (h, mSum (b.1 89) h g + v7, cn g + ci 1, s6)) : Option ((Int32 × Int32 × Int32 × mG) ⊕ (Int32 × mG))) (se (fun v : Int32 × Int32 × Int32 × mG => v.1 = h ∧ ∃ g, g ≤ n ∧ v.2.1 = mSum (b.1 89) h g ∧ v.2.2.1 = cn g ∧ ∀ j, j ≠ 96 → j ≠ 97 → v.2.2.2.1 j = b.1 j) (fun τ : Int32 × mG => τ.1 = mSum (b.1 89) h n ∧ ∀ j, j ≠ 96 → j ≠ 97 → τ.2.1 j = b.1 j)) := fun x hx ex => by
      refine pk_b2 (V_says (x := x) (nc := nc) (by rw [e89]; exact L) (by omega : g < 12) hx) (fun v t qt => ?_)
      obtain ⟨t1, t2⟩ := qt
      rw [e89] at t1
      have t1 : v = LV (b.1 89) (FAc (b.1 89) g h (b.1 89 113) (b.1 89 (27 + g))) x := t1
      have t2 : ∀ j, j ≠ 96 → j ≠ 97 → t.1 j = s.1 j := t2
      refine pk_some (show _ ∧ ∃ g', _ from ⟨rfl, g + 1, by omega, ?_, cnu (by omega), fun j h1 h2 => (t2 j h1 h2).trans (r j h1 h2)⟩)
      show mSum (b.1 89) h g + v = mSum (b.1 89) h g + LV (b.1 89) (FAc (b.1 89) g h (b.1 89 113) (b.1 89 (27 + g))) (if b.1 89 (3 + g) = ci 1 then 1 else 0)
      rw [ex, t1]
    by_cases ho : b.1 89 (3 + g) = ci 1
    · rw [if_pos ho]
      exact pk_nn (st 1 (by decide) (if_pos ho))
    · rw [if_neg ho]
      exact pk_nn (st 0 (by decide) (if_neg ho))
theorem R_expect {a b : mG} (_ : IM b) (h : SIM a b) : rel (F_X11_expect a) (F_X12_expect b) (fun τ υ => τ.1 = υ.1) := by
  obtain ⟨n, nc, K, g2, V⟩ := SIM_K h
  unfold F_X11_expect F_X12_expect F_X1_movesNow
  have e10 : a.1 1 10 = b.1 89 0 := K.1.2.2.2.2.2.2.2.2.2.2.1
  refine rel_b2 (rel_pk (R := fun τ υ => τ.1 = υ.1) (pk_b2 (Q := fun τ => τ.1 = mSum (b.1 89) (b.1 89 0) n) (V_movesC (h := b.1 89 0) K (by rw [e10]) rfl) (fun v s q => pk_some q.1)) (V_movesR K.2.2.2.2 g2 K.2.2.1) (fun u v p q => p.trans q.1.symm)) (fun u u' v v' e => ?_)
  have e : u = v := e
  rw [e]
  exact rel_some rfl
/-- an hour of the day that is -/
theorem day_h {x : Int32} (h0 : 0 ≤ x.toInt ∧ x.toInt ≤ 9999) {c : Nat} (hc : c < 24) : cn c = rm ((x / c8 24) * c8 24 + cn c) (c8 24) ∧ ((x / c8 24) * c8 24 + cn c) / c8 24 = x / c8 24 := by
  have t24 : (c8 24).toInt = 24 := by decide
  have d : (x / c8 24).toInt = x.toInt / 24 := t_div rfl t24 h0.1 (by decide)
  have e : ((x / c8 24) * c8 24).toInt = x.toInt / 24 * 24 := by
    rw [t_mul (by rw [d, t24]; omega) (by rw [d, t24]; omega), d, t24]
  have f : ((x / c8 24) * c8 24 + cn c).toInt = x.toInt / 24 * 24 + c := by
    rw [t_add (by rw [e, t_cn (by omega)]; omega) (by rw [e, t_cn (by omega)]; omega), e, t_cn (by omega)]
  refine ⟨Int32.toInt_inj.mp ?_, Int32.toInt_inj.mp ?_⟩
  · rw [t_rm f t24 (by omega) (by decide), t_cn (by omega)]; omega
  · rw [t_div f t24 (by omega) (by decide), d]; omega
/-- the busiest clock of the first k -/
def bClk (w : Nat → Int32) (n : Nat) : Nat → Nat
  | 0 => 0
  | k + 1 => if mSum w ((w 0 / c8 24) * c8 24 + cn k) n ≤ mSum w ((w 0 / c8 24) * c8 24 + cn (bClk w n k)) n then bClk w n k else k
theorem bClk_b {w : Nat → Int32} {n : Nat} : ∀ k, bClk w n (k + 1) ≤ k := by
  intro k
  induction k with
  | zero =>
    unfold bClk bClk
    rw [if_pos (Int32.le_refl _)]
    exact Nat.le_refl _
  | succ k ih =>
    have e : bClk w n (k + 2) = if mSum w ((w 0 / c8 24) * c8 24 + cn (k + 1)) n ≤ mSum w ((w 0 / c8 24) * c8 24 + cn (bClk w n (k + 1))) n then bClk w n (k + 1) else k + 1 := rfl
    rw [e]
    by_cases h : mSum w ((w 0 / c8 24) * c8 24 + cn (k + 1)) n ≤ mSum w ((w 0 / c8 24) * c8 24 + cn (bClk w n (k + 1))) n
    · rw [if_pos h]; omega
    · rw [if_neg h]; omega
theorem bClk_1 {w : Nat → Int32} {n : Nat} : bClk w n 1 = 0 := by
  have q : bClk w n 1 ≤ 0 := bClk_b (w := w) (n := n) 0
  omega
theorem V_clockC {w : Nat → Int32} {n nc : Nat} {a : mG} (K : HK w n nc a) (h0 : 0 ≤ (w 0).toInt ∧ (w 0).toInt ≤ 9999) : pk (F_X1_busiestClock a) (fun τ => τ.1 = cn (bClk w n 24) ∧ ∀ j, j ≠ 69 → j ≠ 70 → τ.2.1 j = a.1 j) := by
  unfold F_X1_busiestClock
  have D := fun c (hc : c < 24) => day_h h0 hc
  refine pk_b2 (V_movesC (h := (w 0 / c8 24) * c8 24 + cn 0) K (D 0 (by decide)).1 (D 0 (by decide)).2) (fun v0 s0' q0 => ?_)
  obtain ⟨p0o, r0o⟩ := q0
  have p0 : v0 = mSum w ((w 0 / c8 24) * c8 24 + cn 0) n := p0o
  have r0 : ∀ j, j ≠ 69 → j ≠ 70 → s0'.1 j = a.1 j := r0o
  unfold F_X1_busiestClock_L10
  refine pk_whl (fun v => ∃ k, k < 24 ∧ v.1 = cn (bClk w n (k + 1)) ∧ v.2.1 = mSum w ((w 0 / c8 24) * c8 24 + cn (bClk w n (k + 1))) n ∧ v.2.2.1 = cn (k + 1) ∧ ∀ j, j ≠ 69 → j ≠ 70 → v.2.2.2.1 j = a.1 j) ⟨0, by omega, ?_, ?_, rfl, r0⟩ (fun v hv => ?_)
  · show ci 0 = cn (bClk w n 1)
    rw [bClk_1]; rfl
  · show v0 = mSum w ((w 0 / c8 24) * c8 24 + cn (bClk w n 1)) n
    rw [bClk_1]; exact p0
  obtain ⟨x1, x2, x3, s⟩ := v
  obtain ⟨k, hk, q1o, q2o, q3o, ro⟩ := hv
  have q1 : x1 = cn (bClk w n (k + 1)) := q1o
  have q2 : x2 = mSum w ((w 0 / c8 24) * c8 24 + cn (bClk w n (k + 1))) n := q2o
  have q3 : x3 = cn (k + 1) := q3o
  have r : ∀ j, j ≠ 69 → j ≠ 70 → s.1 j = a.1 j := ro
  subst q1; subst q2; subst q3
  have Ks : HK w n nc s := HK_row K (fun j h1 h2 _ => r j h1 h2)
  unfold F_X1_busiestClock_B10 F_X1_busiestClock_34
  dsimp only
  by_cases hk2 : 24 ≤ k + 1
  · have ek : k = 23 := by omega
    rw [if_pos (show c8 24 ≤ cn (k + 1) from (cn_le (a := 24) (by omega) (by omega)).mpr hk2)]
    exact pk_some (show cn (bClk w n (k + 1)) = cn (bClk w n 24) ∧ _ from ⟨by rw [ek], r⟩)
  · rw [if_neg (show ¬ c8 24 ≤ cn (k + 1) from fun q => hk2 ((cn_le (a := 24) (by omega) (by omega)).mp q))]
    refine pk_b2 (V_movesC (h := (w 0 / c8 24) * c8 24 + cn (k + 1)) Ks (D (k + 1) (by omega)).1 (D (k + 1) (by omega)).2) (fun v t qt => ?_)
    obtain ⟨t1o, t2o⟩ := qt
    have t1 : v = mSum w ((w 0 / c8 24) * c8 24 + cn (k + 1)) n := t1o
    have t2 : ∀ j, j ≠ 69 → j ≠ 70 → t.1 j = s.1 j := t2o
    have fr : ∀ j, j ≠ 69 → j ≠ 70 → t.1 j = a.1 j := fun j h1 h2 => (t2 j h1 h2).trans (r j h1 h2)
    have bs : bClk w n (k + 1 + 1) = if mSum w ((w 0 / c8 24) * c8 24 + cn (k + 1)) n ≤ mSum w ((w 0 / c8 24) * c8 24 + cn (bClk w n (k + 1))) n then bClk w n (k + 1) else k + 1 := rfl
    rw [t1]
    by_cases h : mSum w ((w 0 / c8 24) * c8 24 + cn (k + 1)) n ≤ mSum w ((w 0 / c8 24) * c8 24 + cn (bClk w n (k + 1))) n
    · rw [if_pos h] at bs ⊢
      exact pk_some (show ∃ k', _ from ⟨k + 1, by omega, by rw [bs], by rw [bs], cnu (by omega), fr⟩)
    · rw [if_neg h] at bs ⊢
      exact pk_some (show ∃ k', _ from ⟨k + 1, by omega, by rw [bs], by rw [bs], cnu (by omega), fr⟩)
/-- what busy answers -/
def bzA (w : Nat → Int32) (n : Nat) (x : Int32) : Int32 := if x = 0 then cn (bClk w n 24) else mSum w ((w 0 / c8 24) * c8 24 + cn (bClk w n 24)) n / c16 1000
theorem V_busyR {b : mG} {n nc : Nat} {x : Int32} (L : LTy nc (b.1 89)) (g2 : b.1 89 112 = cn n) (hn : n ≤ 12) : pk (F_X12_busy_L29 x ((b.1 89 0 / c8 24) * c8 24) (ci 0) (ci 1) b) (fun τ => τ.1 = bzA (b.1 89) n x) := by
  unfold F_X12_busy_L29
  refine pk_whl (fun v => v.1 = x ∧ v.2.1 = (b.1 89 0 / c8 24) * c8 24 ∧ ∃ k, k < 24 ∧ v.2.2.1 = cn (bClk (b.1 89) n (k + 1)) ∧ v.2.2.2.1 = cn (k + 1) ∧ ∀ j, j ≠ 96 → j ≠ 97 → v.2.2.2.2.1 j = b.1 j) ⟨rfl, rfl, 0, by omega, ?_, rfl, fun _ _ _ => rfl⟩ (fun v hv => ?_)
  · show ci 0 = cn (bClk (b.1 89) n 1)
    rw [bClk_1]; rfl
  obtain ⟨x1, x2, x3, x4, s⟩ := v
  obtain ⟨q1o, q2o, k, hk, q3o, q4o, ro⟩ := hv
  have q1 : x = x1 := (show x1 = x from q1o).symm
  have q2 : x2 = (b.1 89 0 / c8 24) * c8 24 := q2o
  have q3 : x3 = cn (bClk (b.1 89) n (k + 1)) := q3o
  have q4 : x4 = cn (k + 1) := q4o
  have r : ∀ j, j ≠ 96 → j ≠ 97 → s.1 j = b.1 j := ro
  subst q1; subst q2; subst q3; subst q4
  have e89 : s.1 89 = b.1 89 := r 89 (by decide) (by decide)
  unfold F_X12_busy_B29 F_X12_busy_57
  dsimp only
  have MV : ∀ (t : mG) (hh : Int32), t.1 89 = b.1 89 → pk (F_X12_movesIn hh t) (fun τ => τ.1 = mSum (b.1 89) hh n ∧ ∀ j, j ≠ 96 → j ≠ 97 → τ.2.1 j = t.1 j) := fun t hh e => by
    have q := V_movesR (h := hh) (b := t) (n := n) (nc := nc) (by rw [e]; exact L) (by rw [e]; exact g2) hn
    rw [e] at q
    exact q
  by_cases hk2 : 24 ≤ k + 1
  · have ek : k = 23 := by omega
    rw [if_pos (show c8 24 ≤ cn (k + 1) from (cn_le (a := 24) (by omega) (by omega)).mpr hk2)]
    by_cases hx : x = 0
    · rw [if_pos hx]
      exact pk_some (show cn (bClk (b.1 89) n (k + 1)) = bzA (b.1 89) n x by unfold bzA; rw [if_pos hx, ek])
    · rw [if_neg hx]
      refine pk_b2 (MV s _ e89) (fun v t qt => ?_)
      have t1 : v = mSum (b.1 89) ((b.1 89 0 / c8 24) * c8 24 + cn (bClk (b.1 89) n (k + 1))) n := qt.1
      exact pk_some (show v / c16 1000 = bzA (b.1 89) n x by unfold bzA; rw [if_neg hx, t1, ek])
  · rw [if_neg (show ¬ c8 24 ≤ cn (k + 1) from fun q => hk2 ((cn_le (a := 24) (by omega) (by omega)).mp q))]
    refine pk_b2 (MV s _ e89) (fun v t qt => ?_)
    obtain ⟨t1o, t2o⟩ := qt
    have t1 : v = mSum (b.1 89) ((b.1 89 0 / c8 24) * c8 24 + cn (k + 1)) n := t1o
    have t2 : ∀ j, j ≠ 96 → j ≠ 97 → t.1 j = s.1 j := t2o
    have f89 : t.1 89 = b.1 89 := (t2 89 (by decide) (by decide)).trans e89
    refine pk_b2 (MV t _ f89) (fun v2 t' qt' => ?_)
    obtain ⟨t3, t4⟩ := qt'
    have t3 : v2 = mSum (b.1 89) ((b.1 89 0 / c8 24) * c8 24 + cn (bClk (b.1 89) n (k + 1))) n := t3
    have t4 : ∀ j, j ≠ 96 → j ≠ 97 → t'.1 j = t.1 j := t4
    have fr : ∀ j, j ≠ 96 → j ≠ 97 → t'.1 j = b.1 j := fun j h1 h2 => (t4 j h1 h2).trans ((t2 j h1 h2).trans (r j h1 h2))
    have bs : bClk (b.1 89) n (k + 1 + 1) = if mSum (b.1 89) ((b.1 89 0 / c8 24) * c8 24 + cn (k + 1)) n ≤ mSum (b.1 89) ((b.1 89 0 / c8 24) * c8 24 + cn (bClk (b.1 89) n (k + 1))) n then bClk (b.1 89) n (k + 1) else k + 1 := rfl
    rw [t1, t3]
    by_cases h : mSum (b.1 89) ((b.1 89 0 / c8 24) * c8 24 + cn (k + 1)) n ≤ mSum (b.1 89) ((b.1 89 0 / c8 24) * c8 24 + cn (bClk (b.1 89) n (k + 1))) n
    · rw [if_pos h] at bs ⊢
      exact pk_some (show _ ∧ _ ∧ ∃ k', _ from ⟨rfl, rfl, k + 1, by omega, by rw [bs], cnu (by omega), fr⟩)
    · rw [if_neg h] at bs ⊢
      exact pk_some (show _ ∧ _ ∧ ∃ k', _ from ⟨rfl, rfl, k + 1, by omega, by rw [bs], cnu (by omega), fr⟩)
theorem R_busy {a b : mG} {x : Int32} (_ : IM b) (h : SIM a b) : rel (F_X11_busy x a) (F_X12_busy x b) (fun τ υ => τ.1 = υ.1) := by
  obtain ⟨n, nc, K, g2, V⟩ := SIM_K h
  have h0 : 0 ≤ (b.1 89 0).toInt ∧ (b.1 89 0).toInt ≤ 9999 := ⟨V.1, V.2.1⟩
  unfold F_X11_busy F_X12_busy
  rw [F_isIn, b1_some]
  dsimp only
  by_cases h1 : x = 0
  · subst h1
    rw [if_pos rfl, if_neg (show ¬ wi 0 (ci 0) (ci 1) = 0 by decide)]
    exact rel_pk (pk_b2 (Q := fun τ => τ.1 = bzA (b.1 89) n 0) (V_clockC K h0) (fun v s q => pk_some (show v = bzA (b.1 89) n 0 by unfold bzA; rw [if_pos rfl]; exact q.1))) (V_busyR K.2.2.2.2 g2 K.2.2.1) (fun u v p q => p.trans q.symm)
  rw [if_neg h1]
  by_cases h2 : x = ci 1
  · subst h2
    rw [if_pos rfl, if_neg (show ¬ wi (ci 1) (ci 0) (ci 1) = 0 by decide)]
    refine rel_pk (P := fun τ => τ.1 = bzA (b.1 89) n (ci 1)) (pk_b2 (V_clockC K h0) (fun v s q => ?_)) (V_busyR K.2.2.2.2 g2 K.2.2.1) (fun u v p q => p.trans q.symm)
    obtain ⟨q1o, q2o⟩ := q
    have q1 : v = cn (bClk (b.1 89) n 24) := q1o
    have q2 : ∀ j, j ≠ 69 → j ≠ 70 → s.1 j = a.1 j := q2o
    have Ks : HK (b.1 89) n nc s := HK_row K (fun j h1 h2 _ => q2 j h1 h2)
    have lt : bClk (b.1 89) n 24 < 24 := by
      have q : bClk (b.1 89) n 24 ≤ 23 := bClk_b (w := b.1 89) (n := n) 23
      omega
    rw [q1]
    refine pk_b2 (V_movesC (h := (b.1 89 0 / c8 24) * c8 24 + cn (bClk (b.1 89) n 24)) Ks (day_h h0 lt).1 (day_h h0 lt).2) (fun v' s' q' => ?_)
    have t1 : v' = mSum (b.1 89) ((b.1 89 0 / c8 24) * c8 24 + cn (bClk (b.1 89) n 24)) n := q'.1
    exact pk_some (show v' / c16 1000 = bzA (b.1 89) n (ci 1) by unfold bzA; rw [if_neg c1n0, t1])
  · rw [if_neg h2]
    by_cases hw : wi x (ci 0) (ci 1) = 0
    · rw [if_pos hw]; exact rel_some rfl
    · obtain ⟨c, hc, ex⟩ := wi_cn (l := 1) (by omega) hw
      rcases (show c = 0 ∨ c = 1 by omega) with e | e
      · exact absurd (show x = 0 by rw [ex, e]; rfl) h1
      · exact absurd (show x = ci 1 by rw [ex, e]; rfl) h2
/-! who carries his key -/
theorem b2_id {α β : Type} {x : Option (α × β)} : b2 x (fun u v => some (u, v)) = x := by
  rcases x with _ | ⟨u, v⟩ <;> rfl
theorem R_carries {a b : mG} (_ : IM b) (h : SIM a b) : rel (F_X11_carries a) (F_X12_carries b) (fun τ υ => τ.1 = υ.1) := by
  obtain ⟨n, nc, K, g2, V⟩ := SIM_K h
  have hn := K.2.2.1
  have L := K.2.2.2.2
  unfold F_X11_carries F_X12_carries F_X1_likeliestToCarry F_X1_likeliestToCarry_L6 F_X12_carries_L4
  rw [b2_id]
  refine rel_whl (fun v w => v.1 = w.1 ∧ (∃ g, g ≤ n ∧ v.2.2.1 = cn g ∧ w.2.1 = cn g) ∧ ((v.1 = ci (-1) ∧ v.2.1 = ci (-1)) ∨ ∃ t, t < n ∧ v.1 = cn t ∧ v.2.1 = LVn (b.1 89) t 2) ∧ (∀ j, j ≠ 69 → j ≠ 70 → v.2.2.2.1 j = a.1 j) ∧ ∀ j, j ≠ 96 → j ≠ 97 → w.2.2.1 j = b.1 j) ⟨rfl, ⟨0, Nat.zero_le _, rfl, rfl⟩, Or.inl ⟨rfl, rfl⟩, fun _ _ _ => rfl, fun _ _ _ => rfl⟩ (fun v w hvw => ?_)
  obtain ⟨x1, x2, x3, s⟩ := v
  obtain ⟨y1, y2, t⟩ := w
  obtain ⟨q1o, ⟨g, hg, q2o, q3o⟩, q4o, r1o, r2o⟩ := hvw
  have q1 : x1 = y1 := q1o
  have q2 : x3 = cn g := q2o
  have q3 : y2 = cn g := q3o
  have q4 : (x1 = ci (-1) ∧ x2 = ci (-1)) ∨ ∃ t, t < n ∧ x1 = cn t ∧ x2 = LVn (b.1 89) t 2 := q4o
  have r1 : ∀ j, j ≠ 69 → j ≠ 70 → s.1 j = a.1 j := r1o
  have r2 : ∀ j, j ≠ 96 → j ≠ 97 → t.1 j = b.1 j := r2o
  subst q1; subst q2; subst q3
  have Ks : HK (b.1 89) n nc s := HK_row K (fun j h1 h2 _ => r1 j h1 h2)
  have e89 : t.1 89 = b.1 89 := r2 89 (by decide) (by decide)
  unfold F_X1_likeliestToCarry_B6 F_X12_carries_B4 F_X1_likeliestToCarry_49 F_X12_carries_37 F_X12_carries_39
  dsimp only
  rw [Ks.2.1, e89, g2]
  by_cases hgn : n ≤ g
  · rw [if_pos ((cn_le (by omega) (by omega)).mpr hgn), if_pos ((cn_le (by omega) (by omega)).mpr hgn)]
    exact rel_some rfl
  rw [if_neg (fun q => hgn ((cn_le (by omega) (by omega)).mp q)), if_neg (fun q => hgn ((cn_le (by omega) (by omega)).mp q))]
  refine rel_l1 (V_faceK Ks (by omega)) (fun u qu => ?_)
  obtain ⟨k1, f1⟩ := qu
  rw [show ci 2 = cn 2 from rfl]
  refine rel_l2 (V_tellsK (x := 2) (HK_row Ks (fun j h1 _ _ => f1 j h1)) k1 (by decide)) (fun v6 s5 qt => ?_)
  obtain ⟨t1o, t2o⟩ := qt
  have t1 : v6 = LVn (b.1 89) g 2 := t1o
  have t2 : ∀ j, j ≠ 70 → s5.1 j = u.1 j := t2o
  have fr : ∀ j, j ≠ 69 → j ≠ 70 → s5.1 j = a.1 j := fun j h1 h2 => (t2 j h2).trans ((f1 j h1).trans (r1 j h1 h2))
  rw [t1]
  rcases q4 with ⟨p1, p2⟩ | ⟨z, hz, p1, p2⟩
  · have b0 := (LV_b (w := b.1 89) (f := FAc (b.1 89) g (b.1 89 0) (b.1 89 113) (b.1 89 (27 + g))) (x := 2) (by decide)).1
    have b0 : 0 ≤ (LVn (b.1 89) g 2).toInt := b0
    rw [if_neg (show ¬ LVn (b.1 89) g 2 ≤ x2 by rw [p2, Int32.le_iff_toInt_le, show (ci (-1)).toInt = -1 by decide]; omega), if_pos p1]
    exact rel_some (show _ ∧ (∃ g', _) ∧ _ ∧ _ ∧ _ from ⟨rfl, ⟨g + 1, by omega, cnu (by omega), cnu (by omega)⟩, Or.inr ⟨g, by omega, rfl, rfl⟩, fr, r2⟩)
  · rw [if_neg (show ¬ x1 = ci (-1) by rw [p1]; exact cn_nm1 (by omega)), show c8 22 = cn (20 + 2) by decide]
    refine rel_r2 (V_saysNow (x := 2) (nc := nc) (by rw [e89]; exact L) (by omega : g < 12) (by omega)) (fun v5 s4 qs => ?_)
    obtain ⟨u1, u2⟩ := qs
    rw [e89] at u1
    have u1 : v5 = LVn (b.1 89) g 2 := u1
    have u2 : ∀ j, j ≠ 96 → j ≠ 97 → s4.1 j = t.1 j := u2
    have f89 : s4.1 89 = b.1 89 := (u2 89 (by decide) (by decide)).trans e89
    rw [p1]
    refine rel_r2 (V_saysNow (x := 2) (nc := nc) (by rw [f89]; exact L) (by omega : z < 12) (by omega)) (fun v8 s7 qs => ?_)
    obtain ⟨w1, w2⟩ := qs
    rw [f89] at w1
    have w1 : v8 = LVn (b.1 89) z 2 := w1
    have w2 : ∀ j, j ≠ 96 → j ≠ 97 → s7.1 j = s4.1 j := w2
    have fr2 : ∀ j, j ≠ 96 → j ≠ 97 → s7.1 j = b.1 j := fun j h1 h2 => (w2 j h1 h2).trans ((u2 j h1 h2).trans (r2 j h1 h2))
    rw [u1, w1, p2]
    refine rel_ifs Iff.rfl (fun _ => ?_) (fun _ => ?_)
    · exact rel_some (show _ ∧ (∃ g', _) ∧ _ ∧ _ ∧ _ from ⟨rfl, ⟨g + 1, by omega, cnu (by omega), cnu (by omega)⟩, Or.inr ⟨z, hz, rfl, rfl⟩, fr, fr2⟩)
    · exact rel_some (show _ ∧ (∃ g', _) ∧ _ ∧ _ ∧ _ from ⟨rfl, ⟨g + 1, by omega, cnu (by omega), cnu (by omega)⟩, Or.inr ⟨g, by omega, rfl, rfl⟩, fr, fr2⟩)
/-! who stays away -/
def awS (w : Nat → Int32) (g : Nat) : Nat → Int32
  | 0 => ci 1000000
  | k + 1 => (awS w g k * (c16 1000 - LV w (FAc w g (w 0 + cn k) (w 113) (imin (w (27 + g) + cn k) (c16 999))) 1)) / c16 1000
theorem V_stillC {w : Nat → Int32} {n nc g m : Nat} {a : mG} (K : HK w n nc a) (hg : g < n) (hm : m ≤ 48) : pk (F_X1_stillOut (cn g) (cn m) a) (fun τ => τ.1 = awS w g m) := by
  have hn := K.2.2.1
  unfold F_X1_stillOut
  refine pk_b1 (V_faceK K hg) (fun u0 q0 => ?_)
  obtain ⟨k0, r0⟩ := q0
  unfold F_X1_stillOut_L14
  refine pk_whl (fun v => v.1 = cn g ∧ v.2.1 = cn m ∧ ∃ k, k ≤ m ∧ v.2.2.1 = awS w g k ∧ v.2.2.2.1 = cn k ∧ (∃ hh ss, KNc w g hh (w 113) ss v.2.2.2.2) ∧ ∀ j, j ≠ 69 → j ≠ 70 → v.2.2.2.2.1 j = a.1 j) ⟨rfl, rfl, 0, Nat.zero_le _, rfl, rfl, ⟨_, _, k0⟩, fun j h1 _ => r0 j h1⟩ (fun v hv => ?_)
  obtain ⟨x1, x2, x3, x4, s⟩ := v
  obtain ⟨q1o, q2o, k, hk, q3o, q4o, ⟨hh, ss, kno⟩, ro⟩ := hv
  have q1 : x1 = cn g := q1o
  have q2 : x2 = cn m := q2o
  have q3 : x3 = awS w g k := q3o
  have q4 : x4 = cn k := q4o
  have kn : KNc w g hh (w 113) ss s := kno
  have r : ∀ j, j ≠ 69 → j ≠ 70 → s.1 j = a.1 j := ro
  subst q1; subst q2; subst q3; subst q4
  have Ks : HK w n nc s := HK_row K (fun j h1 h2 _ => r j h1 h2)
  have e10 : s.1 1 10 = w 0 := Ks.1.2.2.2.2.2.2.2.2.2.2.1
  unfold F_X1_stillOut_B14
  dsimp only
  by_cases hkm : m ≤ k
  · have ek : k = m := by omega
    rw [if_pos ((cn_le (by omega) (by omega)).mpr hkm)]
    exact pk_some (show awS w g k = awS w g m by rw [ek])
  · rw [if_neg (fun q => hkm ((cn_le (by omega) (by omega)).mp q)), e10]
    refine pk_b1 (V_supposeHour kn) (fun u qu => ?_)
    obtain ⟨k1, f1⟩ := qu
    have Ku : HK w n nc u := HK_row Ks (fun j h1 _ _ => f1 j h1)
    rw [V_atG (c := 4) (k := ci 4) Ku.1.1 Ku.2.1 hn hg (by decide) rfl, b1_some, show ixG g 4 = 27 + g from rfl, V_suppose (k := 8) (e := c8 8) (by decide) (by decide), b1_some, show ci 1 = cn 1 from rfl]
    have k2 : KNc w g (w 0 + cn k) (w 113) (imin (w (27 + g) + cn k) (c16 999)) ((mu u.1 69 8 (imin (w (27 + g) + cn k) (c16 999)), u.2) : mG) := KN_since k1
    have Kv : HK w n nc ((mu u.1 69 8 (imin (w (27 + g) + cn k) (c16 999)), u.2) : mG) := HK_row Ku (fun j h1 _ _ => mu_rowQ h1)
    refine pk_b2 (V_tellsK (x := 1) Kv k2 (by decide)) (fun v t qt => ?_)
    obtain ⟨t1o, t2o⟩ := qt
    have t1 : v = LV w (FAc w g (w 0 + cn k) (w 113) (imin (w (27 + g) + cn k) (c16 999))) 1 := t1o
    have t2 : ∀ j, j ≠ 70 → t.1 j = mu u.1 69 8 (imin (w (27 + g) + cn k) (c16 999)) j := t2o
    have k3 : KNc w g (w 0 + cn k) (w 113) (imin (w (27 + g) + cn k) (c16 999)) t := fun j hj => by rw [t2 69 (by decide)]; exact k2 j hj
    refine pk_some (show _ ∧ _ ∧ ∃ k', _ from ⟨rfl, rfl, k + 1, by omega, by rw [t1]; rfl, cnu (by omega), ⟨_, _, k3⟩, fun j h1 h2 => (t2 j h2).trans ((mu_row h1).trans ((f1 j h1).trans (r j h1 h2)))⟩)
theorem V_stillR {b : mG} {n nc g m : Nat} (L : LTy nc (b.1 89)) (g2 : b.1 89 112 = cn n) (hn : n ≤ 12) (hg : g < n) (hm : m ≤ 48) : pk (F_X12_away_L38 (cn g) (cn m) (ci 1000000) (ci 0) b) (fun τ => τ.1 = awS (b.1 89) g m) := by
  unfold F_X12_away_L38
  refine pk_whl (fun v => v.1 = cn g ∧ v.2.1 = cn m ∧ ∃ k, k ≤ m ∧ v.2.2.1 = awS (b.1 89) g k ∧ v.2.2.2.1 = cn k ∧ ∀ j, j ≠ 96 → j ≠ 97 → v.2.2.2.2.1 j = b.1 j) ⟨rfl, rfl, 0, Nat.zero_le _, rfl, rfl, fun _ _ _ => rfl⟩ (fun v hv => ?_)
  obtain ⟨x1, x2, x3, x4, s⟩ := v
  obtain ⟨q1o, q2o, k, hk, q3o, q4o, ro⟩ := hv
  have q1 : x1 = cn g := q1o
  have q2 : x2 = cn m := q2o
  have q3 : x3 = awS (b.1 89) g k := q3o
  have q4 : x4 = cn k := q4o
  have r : ∀ j, j ≠ 96 → j ≠ 97 → s.1 j = b.1 j := ro
  subst q1; subst q2; subst q3; subst q4
  have e89 : s.1 89 = b.1 89 := r 89 (by decide) (by decide)
  unfold F_X12_away_B38
  dsimp only
  by_cases hkm : m ≤ k
  · have ek : k = m := by omega
    rw [if_pos ((cn_le (by omega) (by omega)).mpr hkm)]
    exact pk_some (show awS (b.1 89) g k = awS (b.1 89) g m by rw [ek])
  · rw [if_neg (fun q => hkm ((cn_le (by omega) (by omega)).mp q)), show c8 27 + cn g = cn (27 + g) from cn_add (a := 27) (by omega), cn_nat (n := 27 + g) (by omega), V_lesser, b1_some, e89, show c8 21 = cn (20 + 1) by decide]
    refine pk_nn ?_
    refine pk_b2 (V_says (x := 1) (nc := nc) (by rw [e89]; exact L) (by omega : g < 12) (by omega)) (fun v t qt => ?_)
    obtain ⟨t1, t2⟩ := qt
    rw [e89] at t1
    have t1 : v = LV (b.1 89) (FAc (b.1 89) g (b.1 89 0 + cn k) (b.1 89 113) (imin (b.1 89 (27 + g) + cn k) (c16 999))) 1 := t1
    have t2 : ∀ j, j ≠ 96 → j ≠ 97 → t.1 j = s.1 j := t2
    refine pk_some (show _ ∧ _ ∧ ∃ k', _ from ⟨rfl, rfl, k + 1, by omega, by rw [t1]; rfl, cnu (by omega), fun j h1 h2 => (t2 j h1 h2).trans (r j h1 h2)⟩)
theorem R_away {a b : mG} {x y : Int32} (_ : IM b) (h : SIM a b) : rel (F_X11_away x y a) (F_X12_away x y b) (fun τ υ => τ.1 = υ.1) := by
  obtain ⟨n, nc, K, g2, V⟩ := SIM_K h
  have hn := K.2.2.1
  unfold F_X11_away F_X12_away F_X11_away_32 F_X12_away_29
  rw [V_isGuest, V_isGuestR g2 hn, b1_some, b1_some, show a.1 (1 + 1) 3 = cn n from K.2.1]
  refine rel_ifs Iff.rfl (fun _ => rel_some rfl) (fun hx => ?_)
  obtain ⟨g, hg, ex⟩ := ig_cn (by omega) hx
  subst ex
  rw [V_within, F_isIn, b1_some, b1_some]
  unfold F_X2_isOut
  rw [show (1 + 1 : Nat) = 2 from rfl, V_atG (c := 2) (k := ci 2) K.1.1 K.2.1 hn hg (by decide) rfl, b1_some, show ixG g 2 = 3 + g from rfl, show ci 3 + cn g = cn (3 + g) from cn_add (a := 3) (by omega), cn_nat (n := 3 + g) (by omega)]
  refine rel_rg ?_
  rcases (V.2.2 g hg).1 with ho | ho
  · rw [if_pos (show b.1 89 (3 + g) = 0 from ho.trans c0e0), if_neg (show ¬ b.1 89 (3 + g) = ci 1 by rw [ho]; decide), b1_some, if_pos c0e0]
    exact rel_li (fun _ => rel_some rfl) (fun _ => rel_some rfl)
  · rw [if_neg (show ¬ b.1 89 (3 + g) = 0 by rw [ho]; decide), if_pos ho, b1_some, if_neg c1n0]
    refine rel_ifs Iff.rfl (fun _ => rel_some rfl) (fun hy => ?_)
    obtain ⟨m, hm, ey⟩ := wi_cn (l := 48) (by omega) hy
    subst ey
    exact rel_pk (pk_b2 (Q := fun τ => τ.1 = awS (b.1 89) g m) (V_stillC K hg hm) (fun v s q => pk_some q)) (V_stillR K.2.2.2.2 g2 hn hg hm) (fun u v p q => p.trans q.symm)
end
