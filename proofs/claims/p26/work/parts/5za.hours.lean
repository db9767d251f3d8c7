noncomputable section
/-! HOURS, on both sides -/
theorem LWC_of {a u : mG} {w : Nat → Int32} {nc : Nat} (H : HSr 1 a.1 w) (hc : a.1 8 3 = cn nc) (hL : LTy nc w) (e6 : u.1 6 = a.1 6) (e7 : u.1 7 = a.1 7) (e8 : u.1 8 = a.1 8) (e9 : u.1 9 = a.1 9) : LWC nc u.1 w :=
  ⟨LWr_same H.2.2.1 e6 e7 (fun _ _ => rfl), CWr_same H.2.2.2.1 e8 e9 (fun _ _ _ => rfl), by rw [e8]; exact hc, hL⟩
/-- what the law tells of a guest as things are -/
def LVn (w : Nat → Int32) (g k : Nat) : Int32 := LV w (FAc w g (w 0) (w 113) (w (27 + g))) k
theorem V_ask {w : Nat → Int32} {a : mG} {n nc g : Nat} (H : HSr 1 a.1 w) (h3 : a.1 2 3 = cn n) (hn : n ≤ 12) (hg : g < n) (hc : a.1 8 3 = cn nc) (hL : LTy nc w) : pk (F_X6_ask (cn g) a) (fun u => (∀ k, k < 5 → u.1 72 k = LVn w g k) ∧ ∀ j, j ≠ 69 → j ≠ 70 → j ≠ 72 → u.1 j = a.1 j) := by
  unfold F_X6_ask
  refine pk_b1 (V_face H.1 h3 hn hg H.2.2.2.2.2.2.2.2.1 H.2.2.2.2.2.2.2.2.2.1 H.2.2.2.2.2.2.2.2.2.2.1) (fun u q => ?_)
  obtain ⟨hk, hr⟩ := q
  unfold F_X6_ask_L10
  refine pk_whl (fun v => ∃ k, k ≤ 5 ∧ v.1 = cn k ∧ KNc w g (w 0) (w 113) (w (27 + g)) v.2 ∧ (∀ i, i < k → v.2.1 72 i = LVn w g i) ∧ ∀ j, j ≠ 69 → j ≠ 70 → j ≠ 72 → v.2.1 j = a.1 j) ⟨0, by omega, rfl, hk, fun i hi => absurd hi (by omega), fun j h1 _ _ => hr j h1⟩ (fun v hv => ?_)
  obtain ⟨x2, s⟩ := v
  obtain ⟨k, hk5, e1, hK, hI, hF⟩ := hv
  have e1 : x2 = cn k := e1
  have hK : KNc w g (w 0) (w 113) (w (27 + g)) s := hK
  have hI : ∀ i, i < k → s.1 72 i = LVn w g i := hI
  have hF : ∀ j, j ≠ 69 → j ≠ 70 → j ≠ 72 → s.1 j = a.1 j := hF
  subst e1
  unfold F_X6_ask_B10
  dsimp only
  by_cases h5 : k = 5
  · subst h5
    rw [if_pos (Int32.le_refl _)]
    exact pk_some ⟨hI, hF⟩
  · rw [if_neg (fun q => h5 (by have := (cn_le (a := 5) (by decide) (by omega)).mp q; omega))]
    refine pk_b2 (V_tells (f := FAc w g (w 0) (w 113) (w (27 + g))) (LWC_of H hc hL (hF 6 (by decide) (by decide) (by decide)) (hF 7 (by decide) (by decide) (by decide)) (hF 8 (by decide) (by decide) (by decide)) (hF 9 (by decide) (by decide) (by decide))) hK (by omega)) (fun v6 s5 q => ?_)
    obtain ⟨q1, q2⟩ := q
    have q1 : v6 = LVn w g k := q1
    have q2 : ∀ j, j ≠ 70 → s5.1 j = s.1 j := q2
    rw [cn_nat (n := k) (by omega)]
    refine pk_nn (pk_some (show ∃ k, _ from ⟨k + 1, by omega, cnu (by omega), fun j hj => ?_, fun i hi => ?_, fun j h1 h2 h3 => ?_⟩))
    · show mu s5.1 72 k v6 69 j = _
      rw [mu_row (by decide), q2 69 (by decide)]
      exact hK j hj
    · show mu s5.1 72 k v6 72 i = _
      by_cases e : i = k
      · subst e; rw [mu_same, q1]
      · rw [mu_cell (Or.inr e), q2 72 (by decide)]
        exact hI i (by omega)
    · show mu s5.1 72 k v6 j = _
      rw [mu_row h3, q2 j h2]
      exact hF j h1 h2 h3
theorem LTy_same {nc : Nat} {w w' : Nat → Int32} (h : LTy nc w) (e : ∀ k, (k = 117 ∨ 985 ≤ k) → w' k = w k) : LTy nc w' := by
  obtain ⟨h1, n, hn, h2, h3⟩ := h
  refine ⟨h1, n, hn, by rw [e 117 (by omega)]; exact h2, fun r hr => ?_⟩
  obtain ⟨p, q, c, hpq, hqc, hc, z1, z2, z3, z4, z5⟩ := h3 r hr
  have ec : (fun j => w' (1050 + j)) = fun j => w (1050 + j) := by
    funext j
    exact e _ (by omega)
  refine ⟨p, q, c, hpq, hqc, hc, ?_, ?_, ?_, ?_, ?_⟩
  · rw [e _ (by omega)]; exact z1
  · rw [e _ (by omega)]; exact z2
  · rw [e _ (by omega)]; exact z3
  · rw [ec]; exact z4
  · rw [ec]; exact z5
theorem HSr_row {D E : Nat → Nat → Int32} {w : Nat → Int32} (H : HSr 1 D w) (e : ∀ j, j ≠ 69 → j ≠ 70 → j ≠ 72 → E j = D j) : HSr 1 E w := by
  obtain ⟨t1, t2, t3, t4, t5, t6, t7, t8, c1, c2, c3, c4⟩ := H
  have r : ∀ j, j < 69 → E j = D j := fun j hj => e j (by omega) (by omega) (by omega)
  refine ⟨TWr_same t1 (r _ (by decide)) (r _ (by decide)) rfl (fun _ _ _ _ => rfl), TWr_same t2 (r _ (by decide)) (r _ (by decide)) rfl (fun _ _ _ _ => rfl), LWr_same t3 (r _ (by decide)) (r _ (by decide)) (fun _ _ => rfl), CWr_same t4 (r _ (by decide)) (r _ (by decide)) (fun _ _ _ => rfl), TWr_same t5 (r _ (by decide)) (r _ (by decide)) rfl (fun _ _ _ _ => rfl), TWr_same t6 (r _ (by decide)) (r _ (by decide)) rfl (fun _ _ _ _ => rfl), TWr_same t7 (r _ (by decide)) (r _ (by decide)) rfl (fun _ _ _ _ => rfl), TWr_same t8 (r _ (by decide)) (r _ (by decide)) rfl (fun _ _ _ _ => rfl), ?_, ?_, ?_, ?_⟩
  · rw [r 1 (by decide)]; exact c1
  · rw [r 1 (by decide)]; exact c2
  · rw [r 1 (by decide)]; exact c3
  · rw [r 1 (by decide)]; exact c4
/-- one guest is asked, and goes or comes, on both sides -/
theorem R_one {a b : mG} {n nc g : Nat} (H : HSr 1 a.1 (b.1 89)) (h3 : a.1 2 3 = cn n) (hn : n ≤ 12) (hg : g < n) (hc : a.1 8 3 = cn nc) (hL : LTy nc (b.1 89)) (hV : VIg (b.1 89) g) {K : Int32 → mG → Option ((Int32 × Int32 × mG) ⊕ (Int32 × mG))} {M : Int32 → mG → Option ((Int32 × Int32 × mG) ⊕ (Int32 × mG))} {Q : ((Int32 × Int32 × mG) ⊕ (Int32 × mG)) → ((Int32 × Int32 × mG) ⊕ (Int32 × mG)) → Prop} (hKM : ∀ τ υ, MQo g a b τ υ → rel (K τ.1 τ.2) (M υ.1 υ.2) Q) : rel (b1 (F_X6_ask (cn g) a) fun s4 => b1 (F_X2_isOut 1 s4 (cn g)) fun v6 => if v6 = 0 then b2 (F_X6_goes (cn g) s4) fun v10 s9 => K v10 s9 else b2 (F_X6_comes (cn g) s4) fun v20 s19 => K v20 s19) (b2 (F_X12_isMoved (cn g) b) fun v5 s4 => M v5 s4) Q := by
  refine rel_l1 (V_ask H h3 hn hg hc hL) (fun u q => ?_)
  obtain ⟨qT, qr⟩ := q
  have Hu : HSr 1 u.1 (b.1 89) := HSr_row H qr
  have u2 : u.1 2 = a.1 2 := qr 2 (by decide) (by decide) (by decide)
  have hu3 : u.1 2 3 = cn n := by rw [u2]; exact h3
  have hat : F_X10_at (1 + 1) u (cn g) (ci 2) = some (b.1 89 (3 + g)) := V_atG (c := 2) (k := ci 2) Hu.1 hu3 hn hg (by decide) rfl
  unfold F_X2_isOut
  rw [hat, b1_some]
  -- the reference tells what it needs
  have says : ∀ (x : Int32) (ch : Nat), ch < 2 → ∀ (y1 : Int32), y1 = cn (20 + ch) → ∀ {X : Option (Int32 × mG)} , (∀ b' : mG, (∀ j, j ≠ 96 → j ≠ 97 → b'.1 j = b.1 j) → rel X (b2 (F_X12_draw (c16 1000) b') fun v18 s17 => if v18 < LVn (b.1 89) g ch then b2 (F_X12_draw (c16 1000) s17) fun v22 s21 => if LVn (b.1 89) g 4 ≤ v22 then F_X12_isMoved_92 (cn g) x (LVn (b.1 89) g 2) (LVn (b.1 89) g 3) (ci 1) s21 else F_X12_isMoved_92 (cn g) x (LVn (b.1 89) g 2) (LVn (b.1 89) g 3) (ci 0) s21 else some (ci 0, s17)) (MQo g a b)) → rel X (F_X12_isMoved_30 (cn g) x y1 b) (MQo g a b) := by
    intro x ch hch y1 hy X h
    subst hy
    unfold F_X12_isMoved_30
    refine rel_r2 (V_saysNow hL (by omega : g < 12) (by omega : ch < 6)) (fun v1 b1' q1 => ?_)
    obtain ⟨p1, r1⟩ := q1
    have p1 : v1 = LVn (b.1 89) g ch := p1
    have r1 : ∀ j, j ≠ 96 → j ≠ 97 → b1'.1 j = b.1 j := r1
    have e1 := r1 89 (by decide) (by decide)
    rw [show c8 24 = cn (20 + 4) by decide, show c8 22 = cn (20 + 2) by decide, show c8 23 = cn (20 + 3) by decide]
    refine rel_r2 (V_saysNow (x := 4) (by rw [e1]; exact hL) (by omega : g < 12) (by omega)) (fun v2 b2' q2 => ?_)
    obtain ⟨p2, r2⟩ := q2
    rw [e1] at p2
    have p2 : v2 = LVn (b.1 89) g 4 := p2
    have r2 : ∀ j, j ≠ 96 → j ≠ 97 → b2'.1 j = b.1 j := fun j h1 h2 => (r2 j h1 h2).trans (r1 j h1 h2)
    have e2 := r2 89 (by decide) (by decide)
    refine rel_r2 (V_saysNow (x := 2) (by rw [e2]; exact hL) (by omega : g < 12) (by omega)) (fun v3 b3' q3 => ?_)
    obtain ⟨p3, r3⟩ := q3
    rw [e2] at p3
    have p3 : v3 = LVn (b.1 89) g 2 := p3
    have r3 : ∀ j, j ≠ 96 → j ≠ 97 → b3'.1 j = b.1 j := fun j h1 h2 => (r3 j h1 h2).trans (r2 j h1 h2)
    have e3 := r3 89 (by decide) (by decide)
    refine rel_r2 (V_saysNow (x := 3) (by rw [e3]; exact hL) (by omega : g < 12) (by omega)) (fun v4 b4' q4 => ?_)
    obtain ⟨p4, r4⟩ := q4
    rw [e3] at p4
    have p4 : v4 = LVn (b.1 89) g 3 := p4
    have r4 : ∀ j, j ≠ 96 → j ≠ 97 → b4'.1 j = b.1 j := fun j h1 h2 => (r4 j h1 h2).trans (r3 j h1 h2)
    rw [p1, p2, p3, p4]
    exact h b4' r4
  have lift : ∀ {b' : mG} {τ υ : Int32 × mG}, (∀ j, j ≠ 96 → j ≠ 97 → b'.1 j = b.1 j) → MQo g u b' τ υ → MQo g a b τ υ := by
    intro b' τ υ hb' q
    obtain ⟨q1, q2, q3, q4, q5, q6, q7, q8, q9⟩ := q
    have e := hb' 89 (by decide) (by decide)
    refine ⟨q1, q2, q3, CFh_tr (fun j _ _ _ _ h5 h6 h7 => qr j h5 h6 h7) q4, RFh_tr (RFh_2 (fun j _ h2 h3 => hb' j h2 h3) (fun k _ => by rw [e]) (by rw [e])) q5, by rw [q6, e], fun k h1 h2 h3 h4 => by rw [q7 k h1 h2 h3 h4, e], q8, q9⟩
  have mv : ∀ y : Int32, (b.1 89 (3 + g) = ci 1 → y = ci 1) → (¬ b.1 89 (3 + g) = ci 1 → y = ci 0) → F_X12_isMoved (cn g) b = if ((ci 3) + cn g) < 0 ∨ 1894 ≤ ((ci 3) + cn g).toNatClampNeg then none else F_X12_isMoved_17 (cn g) y b := by
    intro y h1 h2
    unfold F_X12_isMoved
    rw [show ci 3 + cn g = cn (3 + g) from cn_add (a := 3) (by omega), cn_nat (n := 3 + g) (by omega)]
    by_cases e : b.1 89 (3 + g) = ci 1
    · rw [if_pos e, h1 e]
    · rw [if_neg e, h2 e]
  rcases hV.1 with ho | ho
  · rw [if_neg (by rw [ho]; decide), b1_some, if_pos c0e0, mv (ci 0) (fun e => by rw [ho] at e; exact absurd e (by decide)) (fun _ => rfl)]
    have hk := hV.2.1 ho
    intro x hx y hy
    obtain ⟨v, s, hv, hx⟩ := m_b2 hx
    obtain ⟨v', s', hv', hy⟩ := m_b2 hy
    refine hKM (v, s) (v', s') (?_ : MQo g a b (v, s) (v', s')) x hx y hy
    have main : rel (F_X6_goes (cn g) u) (F_X12_isMoved_30 (cn g) (ci 0) (c8 20) b) (MQo g a b) := by
      refine says (ci 0) 0 (by decide) (c8 20) (by decide) (fun b' hb' => ?_)
      have e := hb' 89 (by decide) (by decide)
      exact rel_mono (R_goes (T := LVn (b.1 89) g) (by rw [e]; exact Hu) hu3 hn hg qT (by rw [e]; exact hk) (by rw [e]; exact ho)) (fun τ υ q => lift hb' q)
    have hv' := (m_gn hv').2
    unfold F_X12_isMoved_17 at hv'
    rw [if_pos c0e0] at hv'
    exact main (v, s) hv (v', s') hv'
  · rw [if_pos ho, b1_some, if_neg c1n0, mv (ci 1) (fun _ => rfl) (fun e => absurd ho e)]
    intro x hx y hy
    obtain ⟨v, s, hv, hx⟩ := m_b2 hx
    obtain ⟨v', s', hv', hy⟩ := m_b2 hy
    refine hKM (v, s) (v', s') (?_ : MQo g a b (v, s) (v', s')) x hx y hy
    have main : rel (F_X6_comes (cn g) u) (F_X12_isMoved_30 (cn g) (ci 1) (c8 21) b) (MQo g a b) := by
      refine says (ci 1) 1 (by decide) (c8 21) (by decide) (fun b' hb' => ?_)
      have e := hb' 89 (by decide) (by decide)
      exact rel_mono (R_comes (T := LVn (b.1 89) g) (by rw [e]; exact Hu) hu3 hn hg qT (by rw [e]; exact ho)) (fun τ υ q => lift hb' q)
    have hv' := (m_gn hv').2
    unfold F_X12_isMoved_17 at hv'
    rw [if_neg c1n0] at hv'
    exact main (v, s) hv (v', s') hv'
theorem V_lesser {s : mG} {c v : Int32} : F_X12_lesser s c v = some (imin v c) := by
  unfold F_X12_lesser imin
  by_cases h : c < v
  · rw [if_neg (fun q => absurd h (Int32.not_lt.mpr q)), if_pos h]
  · rw [if_pos (Int32.not_lt.mp h), if_neg h]
/-- what an hour leaves -/
def HQo (n : Nat) (a b u t : mG) : Prop := HSr 1 u.1 (t.1 89) ∧ CFh a u ∧ RFh b t ∧ ∀ i, i < n → VIg (t.1 89) i
theorem R_hour {a b : mG} {n nc : Nat} (H : HSr 1 a.1 (b.1 89)) (h3 : a.1 2 3 = cn n) (hn : n ≤ 12) (hc : a.1 8 3 = cn nc) (hL : LTy nc (b.1 89)) (hV : ∀ i, i < n → VIg (b.1 89) i) : rel (F_X6_passHour a) (F_X12_anHour b) (fun τ υ => τ.1 = υ.1 ∧ HQo n a b τ.2 υ.2 ∧ υ.2.1 89 0 = b.1 89 0 + ci 1) := by
  have h112 : b.1 89 112 = cn n := by
    obtain ⟨⟨_, _, m, hm, g3, gc, _⟩, _⟩ := H
    rw [gc]; exact g3.symm.trans h3
  unfold F_X6_passHour F_X12_anHour F_X6_passHour_L4 F_X12_anHour_L4
  refine rel_whl (fun v w => v.1 = w.1 ∧ ∃ g, g ≤ n ∧ v.2.1 = cn g ∧ w.2.1 = cn g ∧ HQo n a b v.2.2 w.2.2 ∧ w.2.2.1 89 0 = b.1 89 0) ⟨rfl, 0, Nat.zero_le _, rfl, rfl, ⟨H, CFh_rfl, RFh_rfl, hV⟩, rfl⟩ (fun v w hvw => ?_)
  obtain ⟨x1, x2, s⟩ := v
  obtain ⟨y1, y2, t⟩ := w
  obtain ⟨e1, g, hg, e2, e3, ⟨H1, c1, r1, V1⟩, e0⟩ := hvw
  have e1 : x1 = y1 := e1
  have e2 : x2 = cn g := e2
  have e3 : y2 = cn g := e3
  have H1 : HSr 1 s.1 (t.1 89) := H1
  have c1 : CFh a s := c1
  have r1 : RFh b t := r1
  have V1 : ∀ i, i < n → VIg (t.1 89) i := V1
  have e0 : t.1 89 0 = b.1 89 0 := e0
  subst e1; subst e2; subst e3
  have s2 : s.1 2 = a.1 2 := c1 2 (by decide) (by decide) (by decide) (by decide) (by decide) (by decide) (by decide)
  have hs3 : s.1 2 3 = cn n := by rw [s2]; exact h3
  have ht : t.1 89 112 = cn n := by rw [r1.2.1 112 (by omega)]; exact h112
  unfold F_X6_passHour_B4 F_X12_anHour_B4
  dsimp only
  rw [hs3, ht]
  by_cases hgn : n ≤ g
  · rw [if_pos ((cn_le (by omega) (by omega)).mpr hgn), if_pos ((cn_le (by omega) (by omega)).mpr hgn)]
    have x10 : s.1 1 10 = t.1 89 0 := H1.2.2.2.2.2.2.2.2.2.2.1
    have k0 : ∀ l, l ≠ 0 → mu t.1 89 0 (t.1 89 0 + ci 1) 89 l = t.1 89 l := fun l hl => mu_cell (Or.inr hl)
    refine rel_some (show _ ∧ _ from ⟨rfl, ⟨?_, fun j h1 h2 h3' h4 h5 h6 h7 => (mu_row h1).trans (c1 j h1 h2 h3' h4 h5 h6 h7), RFh_tr r1 (RFh_2 (fun j h1 _ _ => mu_row h1) (fun k hk => k0 k (by omega)) (k0 2 (by decide))), fun i hi => ?_⟩, ?_⟩)
    · rw [x10]
      exact HSr_num H1 (Or.inr (Or.inr (Or.inl ⟨rfl, rfl⟩)))
    · have q := V1 i hi
      unfold VIg at q ⊢
      have k : ∀ l, l ≠ 0 → mu t.1 89 0 (t.1 89 0 + ci 1) 89 l = t.1 89 l := fun l hl => mu_cell (Or.inr hl)
      dsimp only
      rw [k (3 + i) (by omega), k (15 + i) (by omega), k (27 + i) (by omega)]
      exact q
    · show mu t.1 89 0 (t.1 89 0 + ci 1) 89 0 = _
      rw [mu_same, e0]
  · rw [if_neg (fun q => hgn ((cn_le (by omega) (by omega)).mp q)), if_neg (fun q => hgn ((cn_le (by omega) (by omega)).mp q))]
    have s8 : s.1 8 = a.1 8 := c1 8 (by decide) (by decide) (by decide) (by decide) (by decide) (by decide) (by decide)
    have hLt : LTy nc (t.1 89) := LTy_same hL (fun k hk => r1.2.1 k (by omega))
    refine R_one (n := n) (nc := nc) H1 hs3 hn (by omega) (by rw [s8]; exact hc) hLt (V1 g (by omega)) (K := fun v10 s9 => F_X6_passHour_47 x1 (cn g) v10 s9) (M := fun v5 s4 => if v5 = 0 then (if ((c8 27) + cn g) < 0 ∨ 1894 ≤ ((c8 27) + cn g).toNatClampNeg then none else b1 (F_X12_lesser s4 (c16 999) ((s4.1 89 ((c8 27) + cn g).toNatClampNeg) + (ci 1))) fun v9 => F_X12_anHour_54 x1 (cn g) v5 ((c8 27) + cn g) v9 s4) else F_X12_anHour_54 x1 (cn g) v5 ((c8 27) + cn g) (ci 0) s4) (fun τ υ q => ?_)
    obtain ⟨v, u⟩ := τ
    obtain ⟨v', z⟩ := υ
    obtain ⟨q1, q2, q3, q4, q5, q6, q7, q8, q9⟩ := q
    have q1 : v = v' := q1
    have q2 : PB v := q2
    have q3 : HSr 1 u.1 (z.1 89) := q3
    have q4 : CFh s u := q4
    have q5 : RFh t z := q5
    have q6 : z.1 89 0 = t.1 89 0 := q6
    have q7 : ∀ k, 3 ≤ k → k < 111 → k ≠ 3 + g → k ≠ 15 + g → z.1 89 k = t.1 89 k := q7
    have q8 : PBz (z.1 89 (3 + g)) := q8
    have q9 : z.1 89 (3 + g) = ci 0 → z.1 89 (15 + g) = ci (-1) := q9
    subst q1
    have u2 : u.1 2 = s.1 2 := q4 2 (by decide) (by decide) (by decide) (by decide) (by decide) (by decide) (by decide)
    have hu3 : u.1 2 3 = cn n := by rw [u2]; exact hs3
    have hu1 : u.1 2 1 = cn 11 := q3.1.2.1
    have hat : F_X10_at 2 u (cn g) (ci 4) = some (z.1 89 (27 + g)) := V_atG (c := 4) (k := ci 4) q3.1 hu3 hn (by omega) (by decide) rfl
    have e27 : z.1 89 (27 + g) = t.1 89 (27 + g) := q7 _ (by omega) (by omega) (by omega) (by omega)
    have Vg := V1 g (by omega)
    dsimp only
    rw [show c8 27 + cn g = cn (27 + g) from cn_add (a := 27) (by omega), cn_nat (n := 27 + g) (by omega)]
    -- the end of both
    have fin : ∀ (x y : Int32) (yy : Int32), 0 ≤ x.toInt → x.toInt ≤ 999 → rel (F_X6_passHour_101 (x1 + yy) (cn g) (cn g) (ci 4) x u) (F_X12_anHour_65 (cn g) x1 yy (mu z.1 89 (27 + g) x, z.2)) (se2 (fun v w => v.1 = w.1 ∧ ∃ g, g ≤ n ∧ v.2.1 = cn g ∧ w.2.1 = cn g ∧ HQo n a b v.2.2 w.2.2 ∧ w.2.2.1 89 0 = b.1 89 0) (fun τ υ => τ.1 = υ.1 ∧ HQo n a b τ.2 υ.2 ∧ υ.2.1 89 0 = b.1 89 0 + ci 1)) := by
      intro x y yy hx0 hx1
      unfold F_X6_passHour_101 F_X12_anHour_65
      rw [V_putG (n := n) (c := 4) (k := ci 4) hu1 hu3 hn (by omega) (by decide) rfl, b1_some]
      have zk : ∀ l, l ≠ 27 + g → mu z.1 89 (27 + g) x 89 l = z.1 89 l := fun l hl => mu_cell (Or.inr hl)
      refine rel_some (show _ ∧ _ from ⟨rfl, g + 1, by omega, cnu (by omega), cnu (by omega), ⟨HSr_put q3 hu3 (by omega) hn (by decide) rfl, fun j h1 h2 h3' h4 h5 h6 h7 => (mu_row h2).trans ((q4 j h1 h2 h3' h4 h5 h6 h7).trans (c1 j h1 h2 h3' h4 h5 h6 h7)), RFh_tr (RFh_tr r1 q5) (RFh_2 (fun j h1 _ _ => mu_row h1) (fun k hk => zk k (by omega)) (zk 2 (by omega))), fun i hi => ?_⟩, ?_⟩)
      · show VIg (mu z.1 89 (27 + g) x 89) i
        unfold VIg
        rw [zk (3 + i) (by omega), zk (15 + i) (by omega)]
        by_cases e : i = g
        · subst e
          rw [mu_same]
          exact ⟨q8, q9, hx0, hx1⟩
        · rw [zk (27 + i) (by omega), q7 (3 + i) (by omega) (by omega) (by omega) (by omega), q7 (15 + i) (by omega) (by omega) (by omega) (by omega), q7 (27 + i) (by omega) (by omega) (by omega) (by omega)]
          exact V1 i hi
      · show mu z.1 89 (27 + g) x 89 0 = _
        rw [zk 0 (by omega), q6, e0]
    unfold F_X6_passHour_47 F_X6_passHour_58 F_X12_anHour_54
    rw [hat, b1_some, b1_some, cn_nat (n := 27 + g) (by omega)]
    dsimp only
    by_cases hv : v = 0
    · rw [if_pos hv, if_pos hv, if_pos hv]
      rw [V_lesser, b1_some]
      refine rel_rg (rel_rg ?_)
      rw [if_pos hv]
      refine fin _ (ci 0) (ci 0) ?_ ?_
      · have g1 : 0 ≤ (t.1 89 (27 + g)).toInt := Vg.2.2.1
        have g2 : (t.1 89 (27 + g)).toInt ≤ 999 := Vg.2.2.2
        have eu : (z.1 89 (27 + g) + ci 1).toInt = (t.1 89 (27 + g)).toInt + 1 := by rw [e27]; exact t_up (by omega)
        unfold imin
        by_cases hlt : c16 999 < z.1 89 (27 + g) + ci 1
        · rw [if_pos hlt]; decide
        · rw [if_neg hlt, eu]; omega
      · unfold imin
        by_cases hlt : c16 999 < z.1 89 (27 + g) + ci 1
        · rw [if_pos hlt]; decide
        · rw [if_neg hlt]
          have := r_nlt (by decide : (c16 999).toInt = 999) rfl hlt
          omega
    · rw [if_neg hv, if_neg hv, if_neg hv]
      refine rel_rg ?_
      rw [if_neg hv]
      exact fin _ (ci 0) (ci 1) (by decide) (by decide)
end
