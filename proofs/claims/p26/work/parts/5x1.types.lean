noncomputable section
/-! WHAT THE CODE OF A LAW PUSHES: numbers or truths, and never more than 64 -/
def opT (k : Int32) (x y : Bool) : Bool := if 27 ≤ k.toInt ∧ k.toInt ≤ 29 then true else if k.toInt = 31 ∨ k.toInt = 32 then (x && y) else false
def stpT (k v : Int32) (ts : List Bool) : Option (List Bool) :=
  if k.toInt < 23 then (if 0 ≤ k.toInt ∧ k.toInt < 10 ∧ ts.length < 64 then some (false :: ts) else none)
  else if k.toInt = 26 then (match ts with
    | _ :: r => if v = 0 then none else some (false :: r)
    | [] => none)
  else if k.toInt = 30 then (match ts with
    | x :: r => some (x :: r)
    | [] => none)
  else match ts with
    | x :: y :: r => some (opT k x y :: r)
    | _ => none
def Rt (c : Nat → Int32) : Nat → Nat → List Bool → List Bool → Prop
  | _, 0, h, h' => h = h'
  | k, n + 1, h, h' => ∃ m, stpT (c (2 * k)) (c (2 * k + 1)) h = some m ∧ Rt c (k + 1) n m h'
theorem Rt_congr {c c' : Nat → Int32} : ∀ (n k : Nat) (h h' : List Bool), (∀ j, 2 * k ≤ j → j < 2 * (k + n) → c' j = c j) → Rt c k n h h' → Rt c' k n h h' := by
  intro n
  induction n with
  | zero => intro k h h' _ q; exact q
  | succ n ih =>
    intro k h h' hc q
    obtain ⟨m, q1, q2⟩ := q
    exact ⟨m, by rw [hc _ (by omega) (by omega), hc _ (by omega) (by omega)]; exact q1, ih (k + 1) m h' (fun j h1 h2 => hc j (by omega) (by omega)) q2⟩
theorem Rt_trans {c : Nat → Int32} : ∀ (n k m : Nat) (h h' h2 : List Bool), Rt c k n h h' → Rt c (k + n) m h' h2 → Rt c k (n + m) h h2 := by
  intro n
  induction n with
  | zero => intro k m h h' h2 q1 q2; cases (show h = h' from q1); rw [Nat.zero_add]; exact q2
  | succ n ih =>
    intro k m h h' h2 q1 q2
    obtain ⟨i, q1, q3⟩ := q1
    rw [show n + 1 + m = (n + m) + 1 by omega]
    exact ⟨i, q1, ih (k + 1) m i h' h2 q3 (by rw [show k + 1 + n = k + (n + 1) by omega]; exact q2)⟩
theorem tp_push {k v : Int32} (h0 : 0 ≤ k.toInt ∧ k.toInt < 10) (ts : List Bool) (hl : ts.length < 64) : stpT k v ts = some (false :: ts) := by
  unfold stpT
  rw [if_pos (by omega), if_pos ⟨h0.1, h0.2, hl⟩]
theorem tp_bin {k v : Int32} {x y : Bool} (h1 : 23 ≤ k.toInt) (h2 : k.toInt ≠ 26) (h3 : k.toInt ≠ 30) (ts : List Bool) : stpT k v (x :: y :: ts) = some (opT k x y :: ts) := by
  unfold stpT
  rw [if_neg (by omega), if_neg h2, if_neg h3]
theorem tp_part {v : Int32} {x : Bool} (hv : v ≠ 0) (ts : List Bool) : stpT (c8 26) v (x :: ts) = some (false :: ts) := by
  have e : (c8 26).toInt = 26 := by decide
  unfold stpT
  rw [e, if_neg (by decide), if_pos rfl]
  dsimp only
  rw [if_neg hv]
theorem tp_not {v : Int32} {x : Bool} (ts : List Bool) : stpT (c8 30) v (x :: ts) = some (x :: ts) := by
  have e : (c8 30).toInt = 30 := by decide
  unfold stpT
  rw [e, if_neg (by decide), if_neg (by decide), if_pos rfl]
/-- a piece of code that pushes d, and at most e at a time -/
def HT (s s' : mG) (d : List Bool) (e : Nat) (σ : Int) : Prop := HH s s' d.length σ ∧ ∀ ts : List Bool, ts.length + e ≤ 64 → Rt (s'.1 93) (s.1 88 13).toInt.toNat ((s'.1 88 13).toInt - (s.1 88 13).toInt).toNat ts (d ++ ts)
theorem HT_refl {s : mG} (h : PI s) (h0 : 0 ≤ (s.1 88 13).toInt) : HT s s [] 0 0 := ⟨HH_refl h h0, fun ts _ => by rw [Int.sub_self]; rfl⟩
theorem HT_weak {s s' : mG} {d : List Bool} {e e' : Nat} {σ σ' : Int} (h : HT s s' d e σ) (hs : σ' ≤ σ) (he : e ≤ e') : HT s s' d e' σ' := ⟨HH_weak h.1 hs, fun ts hl => h.2 ts (by omega)⟩
theorem HT_nx' {s s1 s2 : mG} {d : List Bool} {e : Nat} {σ σ' : Int} (h : HT s s1 d e σ) (k : NX s1 s2) (hh : HH s s2 d.length σ') : HT s s2 d e σ' := by
  have e13 : s2.1 88 13 = s1.1 88 13 := k.1.2 13 (by decide) (by decide) (by decide) (by decide)
  have e93 : s2.1 93 = s1.1 93 := k.1.1 93 (by decide)
  refine ⟨hh, ?_⟩
  rw [e93, e13]; exact h.2
theorem HT_nx0 {s s1 s2 : mG} {d : List Bool} {e : Nat} {σ : Int} (h : HT s s1 d e σ) (k : NX s1 s2) : HT s s2 d e σ := HT_nx' h k (HH_nx0 h.1 k)
theorem HT_nx1 {s s1 s2 : mG} {d : List Bool} {e : Nat} {σ : Int} (h : HT s s1 d e σ) (k : NX s1 s2) (ht : s1.1 88 17 ≠ 0) : HT s s2 d e (σ + 1) := HT_nx' h k (HH_nx1 h.1 k ht)
theorem HT_tr {s s1 s2 : mG} {a b : List Bool} {e e2 E : Nat} {σ τ : Int} (h : HT s s1 a e σ) (k : HT s1 s2 b e2 τ) (h1 : e ≤ E) (h2 : a.length + e2 ≤ E) : HT s s2 (b ++ a) E (σ + τ) := by
  refine ⟨?_, fun ts hl => ?_⟩
  · rw [List.length_append, Nat.add_comm]; exact HH_tr h.1 k.1
  · obtain ⟨q0, q1, q2, q3, q4, q5, q6, q7⟩ := h.1
    obtain ⟨w0, w1, w2, w3, w4, w5, w6, w7⟩ := k.1
    have r1 := Rt_congr _ _ _ _ (fun j _ hj => w6 j (by omega)) (h.2 ts (by omega))
    have r2 := k.2 (a ++ ts) (by rw [List.length_append]; omega)
    rw [show (s1.1 88 13).toInt.toNat = (s.1 88 13).toInt.toNat + ((s1.1 88 13).toInt - (s.1 88 13).toInt).toNat by omega] at r2
    have r3 := Rt_trans _ _ _ _ _ _ r1 r2
    rw [show ((s1.1 88 13).toInt - (s.1 88 13).toInt).toNat + ((s2.1 88 13).toInt - (s1.1 88 13).toInt).toNat = ((s2.1 88 13).toInt - (s.1 88 13).toInt).toNat by omega] at r3
    rw [List.append_assoc]
    exact r3
theorem HT_lay {s s1 s2 : mG} {k v : Int32} {a b : List Bool} {e E : Nat} {σ : Int} (h : HT s s1 a e σ) (l : LY s1 s2 k v) (hv : ∀ h, stpv k v (h + a.length) = some (h + b.length)) (hs : ∀ ts : List Bool, ts.length + E ≤ 64 → stpT k v (a ++ ts) = some (b ++ ts)) (he : e ≤ E) : HT s s2 b E (σ - 1) := by
  refine ⟨HH_lay h.1 l hv, fun ts hl => ?_⟩
  obtain ⟨q0, q1, q2, q3, q4, q5, q6, q7⟩ := h.1
  obtain ⟨l1, l2, l3, l4, l5, l6⟩ := l
  have r1 := Rt_congr (c' := s2.1 93) _ _ _ _ (fun j _ hj => l6 j (by omega) (by omega)) (h.2 ts (by omega))
  have r2 : Rt (s2.1 93) ((s.1 88 13).toInt.toNat + ((s1.1 88 13).toInt - (s.1 88 13).toInt).toNat) 1 (a ++ ts) (b ++ ts) := by
    rw [show (s.1 88 13).toInt.toNat + ((s1.1 88 13).toInt - (s.1 88 13).toInt).toNat = (s1.1 88 13).toInt.toNat by omega]
    refine ⟨b ++ ts, ?_, rfl⟩
    rw [l4, l5]
    exact hs ts hl
  have r3 := Rt_trans _ _ _ _ _ _ r1 r2
  rw [show ((s1.1 88 13).toInt - (s.1 88 13).toInt).toNat + 1 = ((s2.1 88 13).toInt - (s.1 88 13).toInt).toNat by omega] at r3
  exact r3
theorem HT_23 {s s1 : mG} {d : List Bool} {e : Nat} {σ : Int} {v : Int32} (h : HT s s1 d e σ) : HT s (mu s1.1 88 23 v, s1.2) d e σ := by
  refine ⟨HH_23 h.1, ?_⟩
  rw [show (mu s1.1 88 23 v, s1.2).1 93 = s1.1 93 from mu_rowP (by decide), show (mu s1.1 88 23 v, s1.2).1 88 13 = s1.1 88 13 from mu_cellP (Or.inr (by decide))]
  exact h.2
def POT (s : mG) (b : Bool) (e : Nat) (τ : Int32 × mG) : Prop := PB τ.1 ∧ RE s τ.2 ∧ (¬ τ.1 = 0 → HT s τ.2 [b] e 0 ∧ τ.2.1 88 23 = s.1 88 23)
theorem POT_no {s s' : mG} {b : Bool} {e : Nat} (h : RE s s') : POT s b e (ci 0, s') := ⟨pb0, h, fun q => absurd z0 q⟩
theorem bad_POT {a1 : Int32} {s0 s : mG} {b : Bool} {e : Nat} (h : RE s0 s) : ok (b2 (F_X12_bad a1 s) fun v s' => if v = 0 ∨ v = 1 then some (v, s') else none) (POT s0 b e) := by
  refine ok_b2 T_X12_bad (fun v s' hq => ?_)
  have hv : v = ci 0 := hq.1
  have hr : RE s s' := hq.2
  subst hv
  rw [if_pos (show ci 0 = 0 ∨ ci 0 = 1 from pb0)]
  exact ok_some (POT_no (RE_tr h hr))
theorem bad_lpT {a1 : Int32} {s0 s : mG} {b : Bool} {e : Nat} {P : mG → Prop} {μ : mG → Nat} {n : Nat} (h : RE s0 s) : ok (b2 (F_X12_bad a1 s) fun v s' => if v = 0 ∨ v = 1 then some (Sum.inr (v, s')) else none) (lpost P μ n (POT s0 b e)) := by
  refine ok_b2 T_X12_bad (fun v s' hq => ?_)
  have hv : v = ci 0 := hq.1
  have hr : RE s s' := hq.2
  subst hv
  rw [if_pos (show ci 0 = 0 ∨ ci 0 = 1 from pb0)]
  exact ok_some (lp_inr (POT_no (RE_tr h hr)))
theorem TT_unit_46 {y1 : Int32} {s : mG} (h : PE s) (ht : s.1 88 17 ≠ 0) (hy : 0 ≤ y1.toInt ∧ y1.toInt < 10) : ok (F_X12_unit_46 y1 s) (POT s false 1) := by
  unfold F_X12_unit_46
  have h0 := HT_refl h.1 h.2.1
  have b := HH_st h0.1 (by decide) h
  refine ok_b1 (T_X12_lay b.1 b.2) (fun s6 l6 => ?_)
  have h6 : HT s s6 [false] 1 (0 - 1) := HT_lay h0 l6 (stp_push hy) (fun ts hl => tp_push hy ts (by omega)) (by omega)
  refine ok_b1 (T_X12_next0 (PI_P0 h6.1.2.2.1)) (fun s8 h8 => ?_)
  have g8 : HT s s8 [false] 1 (0 - 1 + 1) := HT_nx1 h6 h8 (by rw [l6.2.1 17 (by decide)]; exact ht)
  refine ok_some ⟨pb1, g8.1.2.1, fun _ => ⟨HT_weak g8 (by omega) (by omega), ?_⟩⟩
  exact (h8.1.2 23 (by decide) (by decide) (by decide) (by decide)).trans (l6.2.1 23 (by decide))
theorem TT_unit {s : mG} (h : PE s) : ok (F_X12_unit s) (POT s false 1) := by
  unfold F_X12_unit F_X12_unit_30
  rw [F_isIn, b1_some]
  have b1 : ¬ wi (s.1 88 17) (c8 41) (c8 49) = 0 → 41 ≤ (s.1 88 17).toInt ∧ (s.1 88 17).toInt ≤ 49 := fun q => isin_f (a := s.1 88 17) (by decide : (c8 41).toInt = 41) (by decide : (c8 49).toInt = 49) (wi_f q)
  have nz : ∀ {n : Int}, (s.1 88 17).toInt = n → n ≠ 0 → s.1 88 17 ≠ 0 := fun e hn q => by rw [q, t_zero] at e; exact hn e.symm
  refine ok_ite (fun c => ?_) (fun c => ?_)
  · have e2 : (s.1 88 17).toInt = 2 := by rw [c]; decide
    refine ok_ite (fun _ => ?_) (fun q => ?_)
    · exact TT_unit_46 h (nz e2 (by decide)) (by rw [show (ci 0).toInt = 0 by decide]; omega)
    · have := b1 q
      omega
  · refine ok_ite (fun _ => bad_POT RE_refl) (fun q => ?_)
    have b2 := b1 q
    refine ok_ite (fun w => absurd w q) (fun _ => ?_)
    exact TT_unit_46 h (nz rfl (by omega)) (by rw [r_sub (rfl : (s.1 88 17).toInt = _) (by decide : (c8 40).toInt = 40) (by omega) (by omega)]; omega)
/-- a state of a loop over factors, terms, tests -/
def LQT (s : mG) (b : Bool) (e : Nat) (v : mG) : Prop := HT s v [b] e 0 ∧ v.1 88 23 = s.1 88 23
theorem TT_prod_44 {y0 : Int32} {s s1 : mG} (h : PE s) (h1 : LQT s false 2 s1) (ht : s1.1 88 17 ≠ 0) : ok (F_X12_product_44 y0 s1) (lpost (LQT s false 2) (fun v => mUp (v.1 88 18)) (mUp (s1.1 88 18)) (POT s false 2)) := by
  unfold F_X12_product_44 F_X12_product_112
  refine ok_b1 (T_X12_next0 (PI_P0 h1.1.1.2.2.1)) (fun s8 h8 => ?_)
  have g8 : HT s s8 [false] 2 (0 + 1) := HT_nx1 h1.1 h8 ht
  have p8 : PE s8 := HH_PE g8.1 (by decide) h
  have d8 : s8.1 88 23 = s.1 88 23 := (h8.1.2 23 (by decide) (by decide) (by decide) (by decide)).trans h1.2
  refine ok_ite (fun _ => ?_) (fun _ => ?_)
  · refine ok_b2 (TT_unit p8) (fun v12 s11 hq => ?_)
    have h11 : POT s8 false 1 (v12, s11) := hq
    clear hq
    refine ok_ite (fun _ => ok_some (lp_inr (POT_no (RE_tr g8.1.2.1 h11.2.1)))) (fun c => ?_)
    have k11 := h11.2.2 c
    have g11 : HT s s11 [false, false] 2 (0 + 1 + 0) := HT_tr g8 k11.1 (by decide) (by decide)
    have b := HH_st g11.1 (by decide) h
    refine ok_b1 (T_X12_lay b.1 b.2) (fun s15 l15 => ?_)
    have g15 : HT s s15 [false] 2 _ := HT_lay g11 l15 (stp_bin (by decide) (by decide) (by decide)) (fun ts _ => tp_bin (by decide) (by decide) (by decide) ts) (by decide)
    exact ok_some (lp_inl ⟨HT_weak g15 (by decide) (by decide), (l15.2.1 23 (by decide)).trans (k11.2.trans d8)⟩ (LQ_m ht h1.1.1.2.2.1 h8 k11.1.1.2.2.2.2.2.1 l15))
  · refine ok_ite (fun c => ?_) (fun _ => bad_lpT g8.1.2.1)
    refine ok_ite (fun _ => bad_lpT g8.1.2.1) (fun cv => ?_)
    refine ok_b1 (T_X12_next0 (PI_P0 g8.1.2.2.1)) (fun s23 h23 => ?_)
    have g23 : HT s s23 [false] 2 (0 + 1 + 1) := HT_nx1 g8 h23 (tok_ne c (by decide))
    have b := HH_st g23.1 (by decide) h
    refine ok_b1 (T_X12_lay b.1 b.2) (fun s25 l25 => ?_)
    have g25 : HT s s25 [false] 2 _ := HT_lay g23 l25 (stp_part cv) (fun ts _ => tp_part cv ts) (by decide)
    have m1 : (s8.1 88 18).toInt ≤ (s23.1 88 18).toInt := by have := g8.1.2.2.1.2.2.1; have := h23.2.2; omega
    exact ok_some (lp_inl ⟨HT_weak g25 (by decide) (by decide), (l25.2.1 23 (by decide)).trans ((h23.1.2 23 (by decide) (by decide) (by decide) (by decide)).trans d8)⟩ (LQ_m ht h1.1.1.2.2.1 h8 m1 l25))
theorem TT_product {s : mG} (h : PE s) : ok (F_X12_product s) (POT s false 2) := by
  unfold F_X12_product
  refine ok_b2 (TT_unit h) (fun v3 s2 hq => ?_)
  have h2 : POT s false 1 (v3, s2) := hq
  clear hq
  refine ok_ite (fun _ => ok_some (POT_no h2.2.1)) (fun c => ?_)
  unfold F_X12_product_L9
  refine ok_whl (LQT s false 2) (fun v => mUp (v.1 88 18)) ⟨HT_weak (h2.2.2 c).1 (by decide) (by decide), (h2.2.2 c).2⟩ (fun s1 h1 => ?_)
  show ok (F_X12_product_B9 s1) _
  unfold F_X12_product_B9 F_X12_product_29
  have go : s1.1 88 17 ≠ 0 → ∀ y, ok (F_X12_product_44 y s1) (lpost (LQT s false 2) (fun v => mUp (v.1 88 18)) (mUp (s1.1 88 18)) (POT s false 2)) := fun ht y => TT_prod_44 h h1 ht
  refine ok_ite (fun c => ?_) (fun _ => ok_ite (fun c => ?_) (fun _ => ?_))
  · exact ok_ite (fun _ => go (tok_ne c (by decide)) _) (fun _ => go (tok_ne c (by decide)) _)
  · exact ok_ite (fun _ => go (tok_ne c (by decide)) _) (fun _ => go (tok_ne c (by decide)) _)
  · exact ok_some (lp_inr ⟨pb1, h1.1.1.2.1, fun _ => h1⟩)
theorem TT_sum_46 {y0 : Int32} {s s1 : mG} (h : PE s) (h1 : LQT s false 3 s1) (ht : s1.1 88 17 ≠ 0) (hy : y0 = c8 23 ∨ y0 = c8 24) : ok (F_X12_sumUp_46 y0 s1) (lpost (LQT s false 3) (fun v => mUp (v.1 88 18)) (mUp (s1.1 88 18)) (POT s false 3)) := by
  unfold F_X12_sumUp_46
  refine ok_b1 (T_X12_next0 (PI_P0 h1.1.1.2.2.1)) (fun s8 h8 => ?_)
  have g8 : HT s s8 [false] 3 (0 + 1) := HT_nx1 h1.1 h8 ht
  have p8 : PE s8 := HH_PE g8.1 (by decide) h
  have d8 : s8.1 88 23 = s.1 88 23 := (h8.1.2 23 (by decide) (by decide) (by decide) (by decide)).trans h1.2
  refine ok_b2 (TT_product p8) (fun v12 s11 hq => ?_)
  have h11 : POT s8 false 2 (v12, s11) := hq
  clear hq
  refine ok_ite (fun _ => ok_some (lp_inr (POT_no (RE_tr g8.1.2.1 h11.2.1)))) (fun c => ?_)
  have k11 := h11.2.2 c
  have g11 : HT s s11 [false, false] 3 (0 + 1 + 0) := HT_tr g8 k11.1 (by decide) (by decide)
  have b := HH_st g11.1 (by decide) h
  refine ok_b1 (T_X12_lay b.1 b.2) (fun s15 l15 => ?_)
  have hs : ∀ h, stpv y0 (ci 0) (h + 2) = some (h + 1) := by
    rcases hy with e | e
    · rw [e]; exact stp_bin (by decide) (by decide) (by decide)
    · rw [e]; exact stp_bin (by decide) (by decide) (by decide)
  have ht2 : ∀ ts : List Bool, stpT y0 (ci 0) (false :: false :: ts) = some (false :: ts) := by
    rcases hy with e | e
    · rw [e]; exact fun ts => tp_bin (by decide) (by decide) (by decide) ts
    · rw [e]; exact fun ts => tp_bin (by decide) (by decide) (by decide) ts
  have g15 : HT s s15 [false] 3 _ := HT_lay g11 l15 hs (fun ts _ => ht2 ts) (by decide)
  exact ok_some (lp_inl ⟨HT_weak g15 (by decide) (by decide), (l15.2.1 23 (by decide)).trans (k11.2.trans d8)⟩ (LQ_m ht h1.1.1.2.2.1 h8 k11.1.1.2.2.2.2.2.1 l15))
theorem TT_sumUp {s : mG} (h : PE s) : ok (F_X12_sumUp s) (POT s false 3) := by
  unfold F_X12_sumUp
  refine ok_b2 (TT_product h) (fun v3 s2 hq => ?_)
  have h2 : POT s false 2 (v3, s2) := hq
  clear hq
  refine ok_ite (fun _ => ok_some (POT_no h2.2.1)) (fun c => ?_)
  unfold F_X12_sumUp_L9
  refine ok_whl (LQT s false 3) (fun v => mUp (v.1 88 18)) ⟨HT_weak (h2.2.2 c).1 (by decide) (by decide), (h2.2.2 c).2⟩ (fun s1 h1 => ?_)
  show ok (F_X12_sumUp_B9 s1) _
  unfold F_X12_sumUp_B9 F_X12_sumUp_29
  refine ok_ite (fun c => ?_) (fun _ => ok_ite (fun c => ?_) (fun _ => ?_))
  · exact ok_ite (fun _ => TT_sum_46 h h1 (tok_ne c (by decide)) (Or.inl rfl)) (fun _ => TT_sum_46 h h1 (tok_ne c (by decide)) (Or.inr rfl))
  · exact ok_ite (fun _ => TT_sum_46 h h1 (tok_ne c (by decide)) (Or.inl rfl)) (fun _ => TT_sum_46 h h1 (tok_ne c (by decide)) (Or.inr rfl))
  · exact ok_some (lp_inr ⟨pb1, h1.1.1.2.1, fun _ => h1⟩)
theorem TT_every {rec : mG → Option (Int32 × mG)} {s : mG} {e : Nat} (h : PE s) (hrec : ∀ s', PE s' → s'.1 88 23 = s.1 88 23 → ok (rec s') (POT s' true e)) : ok (F_X12_every rec s) (POT s true (e + 1)) := by
  unfold F_X12_every
  refine ok_b2 (hrec s h rfl) (fun v3 s2 hq => ?_)
  have h2 : POT s true e (v3, s2) := hq
  clear hq
  refine ok_ite (fun _ => ok_some (POT_no h2.2.1)) (fun c => ?_)
  unfold F_X12_every_L9
  refine ok_whl (LQT s true (e + 1)) (fun v => mUp (v.1 88 18)) ⟨HT_weak (h2.2.2 c).1 (by decide) (by omega), (h2.2.2 c).2⟩ (fun s1 h1 => ?_)
  show ok (F_X12_every_B9 rec s1) _
  unfold F_X12_every_B9
  refine ok_ite (fun c => ?_) (fun _ => ok_some (lp_inr ⟨pb1, h1.1.1.2.1, fun _ => h1⟩))
  have ht := tok_ne c (by decide)
  refine ok_b1 (T_X12_next0 (PI_P0 h1.1.1.2.2.1)) (fun s8 h8 => ?_)
  have g8 : HT s s8 [true] (e + 1) (0 + 1) := HT_nx1 h1.1 h8 ht
  have p8 : PE s8 := HH_PE g8.1 (by decide) h
  have d8 : s8.1 88 23 = s.1 88 23 := (h8.1.2 23 (by decide) (by decide) (by decide) (by decide)).trans h1.2
  refine ok_b2 (hrec s8 p8 d8) (fun v12 s11 hq => ?_)
  have h11 : POT s8 true e (v12, s11) := hq
  clear hq
  refine ok_ite (fun _ => ok_some (lp_inr (POT_no (RE_tr g8.1.2.1 h11.2.1)))) (fun c => ?_)
  have k11 := h11.2.2 c
  have g11 : HT s s11 [true, true] (e + 1) (0 + 1 + 0) := HT_tr g8 k11.1 (by omega) (by show 1 + e ≤ e + 1; omega)
  have b := HH_st g11.1 (by decide) h
  refine ok_b1 (T_X12_lay b.1 b.2) (fun s15 l15 => ?_)
  have g15 : HT s s15 [true] (e + 1) _ := HT_lay g11 l15 (stp_bin (by decide) (by decide) (by decide)) (fun ts _ => tp_bin (by decide) (by decide) (by decide) ts) (by omega)
  exact ok_some (lp_inl ⟨HT_weak g15 (by decide) (by omega), (l15.2.1 23 (by decide)).trans (k11.2.trans d8)⟩ (LQ_m ht h1.1.1.2.2.1 h8 k11.1.1.2.2.2.2.2.1 l15))
theorem TT_any {rec : mG → Option (Int32 × mG)} {s : mG} {e : Nat} (h : PE s) (hrec : ∀ s', PE s' → s'.1 88 23 = s.1 88 23 → ok (rec s') (POT s' true e)) : ok (F_X12_any rec s) (POT s true (e + 2)) := by
  unfold F_X12_any
  refine ok_b2 (TT_every h hrec) (fun v3 s2 hq => ?_)
  have h2 : POT s true (e + 1) (v3, s2) := hq
  clear hq
  refine ok_ite (fun _ => ok_some (POT_no h2.2.1)) (fun c => ?_)
  unfold F_X12_any_L9
  refine ok_whl (LQT s true (e + 2)) (fun v => mUp (v.1 88 18)) ⟨HT_weak (h2.2.2 c).1 (by decide) (by omega), (h2.2.2 c).2⟩ (fun s1 h1 => ?_)
  show ok (F_X12_any_B9 rec s1) _
  unfold F_X12_any_B9
  refine ok_ite (fun c => ?_) (fun _ => ok_some (lp_inr ⟨pb1, h1.1.1.2.1, fun _ => h1⟩))
  have ht := tok_ne c (by decide)
  refine ok_b1 (T_X12_next0 (PI_P0 h1.1.1.2.2.1)) (fun s8 h8 => ?_)
  have g8 : HT s s8 [true] (e + 2) (0 + 1) := HT_nx1 h1.1 h8 ht
  have p8 : PE s8 := HH_PE g8.1 (by decide) h
  have d8 : s8.1 88 23 = s.1 88 23 := (h8.1.2 23 (by decide) (by decide) (by decide) (by decide)).trans h1.2
  refine ok_b2 (TT_every p8 (fun s' p' e' => hrec s' p' (e'.trans d8))) (fun v12 s11 hq => ?_)
  have h11 : POT s8 true (e + 1) (v12, s11) := hq
  clear hq
  refine ok_ite (fun _ => ok_some (lp_inr (POT_no (RE_tr g8.1.2.1 h11.2.1)))) (fun c => ?_)
  have k11 := h11.2.2 c
  have g11 : HT s s11 [true, true] (e + 2) (0 + 1 + 0) := HT_tr g8 k11.1 (by omega) (by show 1 + (e + 1) ≤ e + 2; omega)
  have b := HH_st g11.1 (by decide) h
  refine ok_b1 (T_X12_lay b.1 b.2) (fun s15 l15 => ?_)
  have g15 : HT s s15 [true] (e + 2) _ := HT_lay g11 l15 (stp_bin (by decide) (by decide) (by decide)) (fun ts _ => tp_bin (by decide) (by decide) (by decide) ts) (by omega)
  exact ok_some (lp_inl ⟨HT_weak g15 (by decide) (by omega), (l15.2.1 23 (by decide)).trans (k11.2.trans d8)⟩ (LQ_m ht h1.1.1.2.2.1 h8 k11.1.1.2.2.2.2.2.1 l15))
theorem TT_opens {s : mG} (h : PE s) (ht : s.1 88 17 ≠ 0) : ok (F_X12_opens s) (fun τ => PB τ.1 ∧ RE s τ.2 ∧ (¬ τ.1 = 0 → (s.1 88 23).toInt ≠ 8 ∧ HT s τ.2 [] 0 1 ∧ τ.2.1 88 23 = s.1 88 23 + ci 1)) := by
  unfold F_X12_opens
  refine ok_ite (fun _ => ?_) (fun c => ?_)
  · refine ok_b2 T_X12_bad (fun v s' hq => ?_)
    have hv : v = ci 0 := hq.1
    have hr : RE s s' := hq.2
    subst hv
    rw [if_pos (show ci 0 = 0 ∨ ci 0 = 1 from pb0)]
    exact ok_some ⟨pb0, hr, fun q => absurd z0 q⟩
  · have c8' := r_ne (rfl : (s.1 88 23).toInt = _) (by decide : (c8 8).toInt = 8) c
    extract_lets +onlyGivenNames s6
    have h6 : HT s s6 [] 0 0 := HT_23 (HT_refl h.1 h.2.1)
    have e17 : s6.1 88 17 = s.1 88 17 := mu_cellP (by omega)
    have e23 : s6.1 88 23 = s.1 88 23 + ci 1 := mu_sameP
    clear_value s6
    refine ok_b1 (T_X12_next0 (PI_P0 h6.1.2.2.1)) (fun s8 h8 => ?_)
    have g8 := HT_nx1 h6 h8 (by rw [e17]; exact ht)
    exact ok_some ⟨pb1, g8.1.2.1, fun _ => ⟨c8', g8, (h8.1.2 23 (by decide) (by decide) (by decide) (by decide)).trans e23⟩⟩
theorem TT_one_147 {rec : mG → Option (Int32 × mG)} {y0 : Int32} {s s1 : mG} (h : PE s) (h1 : LQT s false 3 s1) (ht : s1.1 88 17 ≠ 0) (hy : y0 = c8 27 ∨ y0 = c8 28 ∨ y0 = c8 29) : ok (F_X12_oneTest_147 rec y0 s1) (POT s true 4) := by
  unfold F_X12_oneTest_147
  refine ok_ite (fun _ => bad_POT h1.1.1.2.1) (fun _ => ?_)
  refine ok_b1 (T_X12_next0 (PI_P0 h1.1.1.2.2.1)) (fun s8 h8 => ?_)
  have g8 : HT s s8 [false] 3 (0 + 1) := HT_nx1 h1.1 h8 ht
  have p8 : PE s8 := HH_PE g8.1 (by decide) h
  have d8 : s8.1 88 23 = s.1 88 23 := (h8.1.2 23 (by decide) (by decide) (by decide) (by decide)).trans h1.2
  refine ok_b2 (TT_sumUp p8) (fun v12 s11 hq => ?_)
  have h11 : POT s8 false 3 (v12, s11) := hq
  clear hq
  refine ok_ite (fun _ => ok_some (POT_no (RE_tr g8.1.2.1 h11.2.1))) (fun c => ?_)
  have k11 := h11.2.2 c
  have g11 : HT s s11 [false, false] 4 (0 + 1 + 0) := HT_tr g8 k11.1 (by decide) (by decide)
  have b := HH_st g11.1 (by decide) h
  refine ok_b1 (T_X12_lay b.1 b.2) (fun s15 l15 => ?_)
  have hs : ∀ h, stpv y0 (ci 0) (h + 2) = some (h + 1) := by
    rcases hy with e | e | e
    · rw [e]; exact stp_bin (by decide) (by decide) (by decide)
    · rw [e]; exact stp_bin (by decide) (by decide) (by decide)
    · rw [e]; exact stp_bin (by decide) (by decide) (by decide)
  have ht2 : ∀ ts : List Bool, stpT y0 (ci 0) (false :: false :: ts) = some (true :: ts) := by
    rcases hy with e | e | e
    · rw [e]; exact fun ts => tp_bin (by decide) (by decide) (by decide) ts
    · rw [e]; exact fun ts => tp_bin (by decide) (by decide) (by decide) ts
    · rw [e]; exact fun ts => tp_bin (by decide) (by decide) (by decide) ts
  have g15 : HT s s15 [true] 4 _ := HT_lay g11 l15 hs (fun ts _ => ht2 ts) (by decide)
  exact ok_some ⟨pb1, g15.1.2.1, fun _ => ⟨HT_weak g15 (by decide) (by decide), (l15.2.1 23 (by decide)).trans (k11.2.trans d8)⟩⟩
theorem TT_oneTest {rec : mG → Option (Int32 × mG)} {s : mG} {e : Nat} (h : PE s) (h4 : 4 ≤ e) (hrec : (s.1 88 23).toInt ≠ 8 → ∃ e', e' + 2 ≤ e ∧ ∀ s', PE s' → s'.1 88 23 = s.1 88 23 + ci 1 → ok (rec s') (POT s' true e')) : ok (F_X12_oneTest rec s) (POT s true e) := by
  unfold F_X12_oneTest F_X12_oneTest_23 F_X12_oneTest_78
  refine ok_ite (fun c => ?_) (fun _ => ok_ite (fun c => ?_) (fun _ => ?_))
  · refine ok_b2 (TT_opens h (tok_ne c (by decide))) (fun v4 s3 hq => ?_)
    obtain ⟨_, h3, k3⟩ := hq
    refine ok_ite (fun _ => ok_some (POT_no h3)) (fun c4 => ?_)
    obtain ⟨k1, k2, k3⟩ := k3 c4
    have k2' : HT s s3 [] 0 1 := k2
    have k3' : s3.1 88 23 = s.1 88 23 + ci 1 := k3
    obtain ⟨e', he', hr⟩ := hrec k1
    refine ok_b2 (hr s3 (HH_PE k2'.1 (by decide) h) k3') (fun v8 s7 hq => ?_)
    have h7 : POT s3 true e' (v8, s7) := hq
    clear hq
    refine ok_ite (fun _ => ok_some (POT_no (RE_tr k2'.1.2.1 h7.2.1))) (fun c8' => ?_)
    have q7 := h7.2.2 c8'
    extract_lets +onlyGivenNames s10
    have g10 : HT s s10 [true] e (1 + 0) := HT_23 (HT_tr k2' q7.1 (by omega) (by show 0 + e' ≤ e; omega))
    have e10 : s10.1 88 23 = s7.1 88 23 - ci 1 := mu_sameP
    clear_value s10
    have b := HH_st g10.1 (by decide) h
    refine ok_b1 (T_X12_lay b.1 b.2) (fun s12 l12 => ?_)
    have g12 : HT s s12 [true] e _ := HT_lay g10 l12 (fun h => stp_not h) (fun ts _ => tp_not ts) (by omega)
    refine ok_some ⟨pb1, g12.1.2.1, fun _ => ⟨HT_weak g12 (by decide) (by omega), ?_⟩⟩
    rw [show (ci 1, s12).2 = s12 from rfl, l12.2.1 23 (by decide), e10, q7.2, k3', a1s1]
  · refine ok_b2 (TT_opens h (tok_ne c (by decide))) (fun v16 s15 hq => ?_)
    obtain ⟨_, h3, k3⟩ := hq
    refine ok_ite (fun _ => ok_some (POT_no h3)) (fun c4 => ?_)
    obtain ⟨k1, k2, k3⟩ := k3 c4
    have k2' : HT s s15 [] 0 1 := k2
    have k3' : s15.1 88 23 = s.1 88 23 + ci 1 := k3
    obtain ⟨e', he', hr⟩ := hrec k1
    refine ok_b2 (TT_any (HH_PE k2'.1 (by decide) h) (fun s' p' e' => hr s' p' (e'.trans k3'))) (fun v20 s19 hq => ?_)
    have h7 : POT s15 true (e' + 2) (v20, s19) := hq
    clear hq
    refine ok_ite (fun _ => ok_some (POT_no (RE_tr k2'.1.2.1 h7.2.1))) (fun c8' => ?_)
    have q7 := h7.2.2 c8'
    have g19 : HT s s19 [true] e (1 + 0) := HT_tr k2' q7.1 (by omega) (by show 0 + (e' + 2) ≤ e; omega)
    refine ok_b2 (T_X12_need (PI_P0 g19.1.2.2.1)) (fun v24 s23 hq => ?_)
    obtain ⟨_, h23, k23⟩ := hq
    have h23' : RE s19 s23 := h23
    refine ok_ite (fun _ => ok_some (POT_no (RE_tr g19.1.2.1 h23'))) (fun c9 => ?_)
    have n23 : NX s19 s23 := (k23 c9).1
    have g23 := HT_nx0 g19 n23
    refine ok_some ⟨pb1, ?_, fun _ => ⟨HT_weak (HT_23 g23) (by decide) (by omega), ?_⟩⟩
    · exact RE_tr g23.1.2.1 (RE_mu (by unfold kE; omega))
    · show (mu s23.1 88 23 (s23.1 88 23 - ci 1)) 88 23 = s.1 88 23
      rw [mu_same, n23.1.2 23 (by decide) (by decide) (by decide) (by decide), q7.2, k3', a1s1]
  · refine ok_b2 (TT_sumUp h) (fun v29 s28 hq => ?_)
    have h28 : POT s false 3 (v29, s28) := hq
    clear hq
    refine ok_ite (fun _ => ok_some (POT_no h28.2.1)) (fun c => ?_)
    have k28 : LQT s false 3 s28 := h28.2.2 c
    have up : ∀ {o : Option (Int32 × mG)}, ok o (POT s true 4) → ok o (POT s true e) := fun q => ok_mono q (fun τ w => ⟨w.1, w.2.1, fun hn => ⟨HT_weak (w.2.2 hn).1 (Int.le_refl _) h4, (w.2.2 hn).2⟩⟩)
    refine ok_ite (fun c => up (TT_one_147 h k28 (tok_ne c (by decide)) (Or.inl rfl))) (fun _ => ?_)
    refine ok_ite (fun c => up (TT_one_147 h k28 (tok_ne c (by decide)) (Or.inr (Or.inl rfl)))) (fun _ => ?_)
    refine ok_ite (fun c => up (TT_one_147 h k28 (tok_ne c (by decide)) (Or.inr (Or.inr rfl)))) (fun _ => ?_)
    unfold F_X12_oneTest_147
    rw [if_pos rfl]
    exact bad_POT k28.1.1.2.1
end
