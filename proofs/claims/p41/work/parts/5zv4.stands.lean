noncomputable section
/-! WHERE A CLERK STANDS, on both sides -/
/-- what the reference's row 104 holds -/
def PMq (D : Nat → Nat → Int32) (p : Int32) (t : mG) : Prop := ∀ c, c < 24 → ∀ d, d < 2 → t.1 104 (2 * c + d) = rSt D p (24 - c) d
theorem V_standsR {D : Nat → Nat → Int32} {p y r0 r1 : Int32} {s : mG} (hr0 : rSt D p 24 0 = r0) (hr1 : rSt D p 24 1 = r1) (h103 : ∀ c, c < 24 → ∀ d, d < 2 → s.1 103 (2 * c + d) = D c d) : pk (F_X12_stands_L51 p y (c8 23) s) (fun τ => ∃ t : mG, PMq D p t ∧ (y = 0 → τ.1 = imax r0 r1) ∧ (¬ y = 0 → F_X12_stands_157 p y (if r0 < r1 then ci 1 else ci 0) t = some τ)) := by
  unfold F_X12_stands_L51
  have st : c8 23 = cn 24 + ci (-1) := by decide
  refine pk_whl (fun v => ∃ (q : Nat) (t : mG), q ≤ 24 ∧ v = (p, y, cn q + ci (-1), t) ∧ (∀ c, c < 24 → ∀ d, d < 2 → t.1 103 (2 * c + d) = D c d) ∧ ∀ c, q ≤ c → c < 24 → ∀ d, d < 2 → t.1 104 (2 * c + d) = rSt D p (24 - c) d) ⟨24, s, Nat.le_refl _, by rw [st], h103, fun c h1 h2 => absurd h1 (by omega)⟩ (fun v hv => ?_)
  obtain ⟨q, t, hq, ev, t3, ht⟩ := hv
  rw [ev]
  unfold F_X12_stands_B51
  dsimp only
  by_cases h0 : q = 0
  · rw [h0] at ht
    have P : PMq D p t := fun c hc => ht c (by omega) hc
    have a0 : t.1 104 0 = r0 := (P 0 (by decide) 0 (by decide)).trans hr0
    have a1 : t.1 104 1 = r1 := (P 0 (by decide) 1 (by decide)).trans hr1
    rw [h0, if_pos (by decide), a0, a1]
    by_cases hy : y = 0
    · rw [if_pos hy, V_greater, b1_some]
      exact pk_some (show ∃ t : mG, _ from ⟨t, P, fun _ => rfl, fun z => absurd hy z⟩)
    · rw [if_neg hy]
      by_cases hl : r0 < r1
      · rw [if_pos hl]
        exact pk_b1r (fun o ho => ⟨t, P, fun z => absurd z hy, fun _ => by rw [if_pos hl]; exact ho⟩)
      · rw [if_neg hl]
        exact pk_b1r (fun o ho => ⟨t, P, fun z => absurd z hy, fun _ => by rw [if_neg hl]; exact ho⟩)
  obtain ⟨q', eq⟩ : ∃ q', q = q' + 1 := ⟨q - 1, by omega⟩
  rw [eq, cn_d2 (by omega), if_neg (cn_nn (by omega))]
  unfold F_X12_stands_L58
  refine pk_whl (fun v => ∃ (d : Nat) (u : mG), d ≤ 2 ∧ v = (p, y, cn q', cn d, u) ∧ (∀ c, c < 24 → ∀ d, d < 2 → u.1 103 (2 * c + d) = D c d) ∧ (∀ c, q ≤ c → c < 24 → ∀ d, d < 2 → u.1 104 (2 * c + d) = rSt D p (24 - c) d) ∧ ∀ i, i < d → u.1 104 (2 * q' + i) = rSt D p (24 - q') i) ⟨0, t, by omega, rfl, t3, ht, fun i hi => absurd hi (by omega)⟩ (fun v hv => ?_)
  obtain ⟨d, u, hd, ev, u3, hu, hi⟩ := hv
  rw [ev]
  unfold F_X12_stands_B58 F_X12_stands_103
  dsimp only
  by_cases h2 : 2 ≤ d
  · have ed : d = 2 := by omega
    rw [if_pos (show ci 2 ≤ cn d from (cn_le (a := 2) (by omega) (by omega)).mpr h2)]
    rw [ed] at hi
    exact pk_some (show ∃ (q : Nat) (t : mG), _ from ⟨q', u, by omega, rfl, u3, fun c h1 h2 => by
      by_cases e : c = q'
      · rw [e]; exact hi
      · exact hu c (by omega) h2⟩)
  rw [if_neg (show ¬ ci 2 ≤ cn d from fun z => h2 ((cn_le (a := 2) (by omega) (by omega)).mp z)), d_ix (by omega) (by omega), cn_nat (n := 2 * q' + d) (by omega), u3 q' (by omega) d (by omega)]
  refine pk_nn ?_
  have fin : ∀ x : Int32, D q' d + x = rSt D p (24 - q') d → pk (if cn (2 * q' + d) < 0 ∨ 50 ≤ 2 * q' + d then none else some (Sum.inl (p, y, cn q', cn d + ci 1, ((mu u.1 104 (2 * q' + d) (D q' d + x), u.2) : mG)))) (se (fun v : Int32 × Int32 × Int32 × Int32 × mG => ∃ (d : Nat) (u : mG), d ≤ 2 ∧ v = (p, y, cn q', cn d, u) ∧ (∀ c, c < 24 → ∀ d, d < 2 → u.1 103 (2 * c + d) = D c d) ∧ (∀ c, q ≤ c → c < 24 → ∀ d, d < 2 → u.1 104 (2 * c + d) = rSt D p (24 - c) d) ∧ ∀ i, i < d → u.1 104 (2 * q' + i) = rSt D p (24 - q') i) (se (fun v : Int32 × Int32 × Int32 × mG => ∃ (q : Nat) (t : mG), q ≤ 24 ∧ v = (p, y, cn q + ci (-1), t) ∧ (∀ c, c < 24 → ∀ d, d < 2 → t.1 103 (2 * c + d) = D c d) ∧ ∀ c, q ≤ c → c < 24 → ∀ d, d < 2 → t.1 104 (2 * c + d) = rSt D p (24 - c) d) (fun τ : Int32 × mG => ∃ t : mG, PMq D p t ∧ (y = 0 → τ.1 = imax r0 r1) ∧ (¬ y = 0 → F_X12_stands_157 p y (if r0 < r1 then ci 1 else ci 0) t = some τ)))) := fun x hx => by
    rw [hx]
    refine pk_nn (pk_some (show ∃ (d : Nat) (u : mG), _ from ⟨d + 1, _, by omega, by rw [cnu (by omega)], fun c hc i hi2 => (mu_cellQ (i := 104) (j := 103) (Or.inl (by decide))).trans (u3 c hc i hi2), fun c h1 h2 i hi2 => ?_, fun i hi2 => ?_⟩))
    · refine (mu_cellQ (Or.inr ?_)).trans (hu c h1 h2 i hi2)
      omega
    · by_cases e : i = d
      · rw [e]
        exact mu_sameQ
      · exact (mu_cellQ (Or.inr (by omega))).trans (hi i (by omega))
  by_cases e23 : q' = 23
  · rw [if_pos (show cn q' = c8 23 by rw [e23]; decide)]
    exact fin (ci 0) (by rw [rSt_q (by omega), if_pos e23])
  · rw [if_neg (show ¬ cn q' = c8 23 from fun z => e23 ((cn_inj (b := 23) (by omega) (by omega)).mp (z.trans (by decide))))]
    refine pk_b1 (V_mostBy (f := fun i => rSt D p (24 - (q' + 1)) i) (by omega) (by omega) (fun i hi2 => hu (q' + 1) (by omega) (by omega) i hi2)) (fun v28 h28 => ?_)
    exact fin v28 (by rw [rSt_q (by omega), if_neg e23, h28])
theorem R_door {D : Nat → Nat → Int32} {p y : Int32} {Y d : Nat} {u t : mG} (hy : y - c8 10 = cn Y) (hY : Y < 24) (hd : d < 2) (U : PLq D p u) (T : PMq D p t) : rel (F_X1_doorAt_L30 u (cn Y) p (cn d) (ci 1)) (F_X12_stands_L161 p y (cn d) (ci 1) t) (fun v τ => v = τ.1) := by
  obtain ⟨⟨_, _, _, u1⟩, u3, u2⟩ := U
  unfold F_X1_doorAt_L30 F_X12_stands_L161
  refine rel_whl (fun v w => ∃ c d : Nat, 1 ≤ c ∧ c ≤ Y + 1 ∧ d < 2 ∧ v = (cn Y, p, cn d, cn c) ∧ w = (p, y, cn d, cn c, t)) ⟨1, d, by omega, by omega, hd, rfl, rfl⟩ (fun v w hvw => ?_)
  obtain ⟨c, e, hc1, hc2, he, ev, ew⟩ := hvw
  rw [ev, ew]
  unfold F_X1_doorAt_B30 F_X12_stands_B161 F_X1_doorAt_76 F_X1_doorAt_69 F_X12_stands_219 F_X12_stands_223
  dsimp only
  rw [hy]
  by_cases h : Y < c
  · rw [if_pos ((cn_lt (by omega) (by omega)).mpr h), if_pos ((cn_lt (by omega) (by omega)).mpr h), b1_some]
    exact rel_some (show cn e = cn e from rfl)
  have on : ∀ (z1 z2 : Int32) (k : Nat), k < 2 → z1 = cn k → z2 = cn k → rel (some (Sum.inl (cn Y, p, z1, cn c + ci 1)) : Option ((Int32 × Int32 × Int32 × Int32) ⊕ Int32)) (some (Sum.inl (p, y, z2, cn c + ci 1, t)) : Option ((Int32 × Int32 × Int32 × Int32 × mG) ⊕ (Int32 × mG))) (se2 (fun v w => ∃ c d : Nat, 1 ≤ c ∧ c ≤ Y + 1 ∧ d < 2 ∧ v = (cn Y, p, cn d, cn c) ∧ w = (p, y, cn d, cn c, t)) (fun v τ => v = τ.1)) := fun z1 z2 k hk e1 e2 => rel_some (show ∃ c d : Nat, _ from ⟨c + 1, k, by omega, by omega, hk, by rw [cnu (by omega), e1], by rw [cnu (by omega), e2]⟩)
  have n24 : ¬ c8 24 ≤ cn c := by
    rw [show c8 24 = cn 24 by decide]
    exact fun z => by have := (cn_le (by omega) (by omega)).mp z; omega
  have R0 := u2 c (by omega) 0 (by omega)
  have R1 := u2 c (by omega) 1 (by omega)
  have T0 := T c (by omega) 0 (by omega)
  have T1 := T c (by omega) 1 (by omega)
  rw [if_neg (fun z => h ((cn_lt (by omega) (by omega)).mp z)), if_neg (fun z => h ((cn_lt (by omega) (by omega)).mp z)), if_neg n24]
  have E0 : F_X1_restFrom u (cn c) (cn e) (ci 0) p = some (u.1 81 (c * 2 + 0) - (if e = 0 then ci 0 else p)) := (V_restC (e := 0) u1 u3 (by omega) he (by decide)).trans (by rw [if_pos (show c < 24 by omega)])
  have E1 : F_X1_restFrom u (cn c) (cn e) (ci 1) p = some (u.1 81 (c * 2 + 1) - (if e = 1 then ci 0 else p)) := (V_restC (e := 1) u1 u3 (by omega) he (by decide)).trans (by rw [if_pos (show c < 24 by omega)])
  rw [E0, b1_some, E1, b1_some, R0, R1, d_ix (by omega) (by omega), show (ci 2 * cn c) + ci 1 = cn (2 * c + 1) from d_ix (d := 1) (by omega) (by omega), cn_sub (by omega) (by omega), cn_nat (n := 2 * c + e) (by omega), cn_nat (n := 2 * c + 1 - e) (by omega)]
  refine rel_rg (rel_rg ?_)
  generalize rSt D p (24 - c) 0 = r0 at R0 R1 T0 T1 ⊢
  generalize rSt D p (24 - c) 1 = r1 at R0 R1 T0 T1 ⊢
  rcases (show e = 0 ∨ e = 1 by omega) with ee | ee
  · subst ee
    rw [if_pos rfl, if_neg (show ¬ 0 = 1 by decide), show r0 - ci 0 = r0 from Int32.sub_zero _, show t.1 104 (2 * c + 0) = r0 from T0, show 2 * c + 1 - 0 = 2 * c + 1 from rfl, T1]
    refine rel_ifs Iff.rfl (fun _ => on _ _ 1 (by omega) rfl (by decide)) (fun _ => ?_)
    refine rel_ri (fun _ => ?_) (fun _ => on _ _ 0 (by omega) rfl rfl)
    rw [if_neg (show ¬ cn 0 = ci 1 by decide)]
    exact on _ _ 0 (by omega) rfl rfl
  · subst ee
    rw [if_neg (show ¬ 1 = 0 by decide), if_pos rfl, show r1 - ci 0 = r1 from Int32.sub_zero _, T1, show 2 * c + 1 - 1 = 2 * c + 0 by omega, T0]
    generalize r0 - p = x
    refine rel_li (fun hl => ?_) (fun hl => ?_)
    · rw [Int32.lt_iff_toInt_lt] at hl
      rw [if_neg (fun z => by rw [Int32.lt_iff_toInt_lt] at z; omega), if_neg (fun z => by rw [z] at hl; omega)]
      exact on _ _ 1 (by omega) rfl rfl
    · refine rel_ri (fun _ => on _ _ 0 (by omega) rfl (by decide)) (fun hk => ?_)
      have ex : x = r1 := by
        rw [Int32.lt_iff_toInt_lt] at hl hk
        exact Int32.toInt_inj.mp (by omega)
      rw [if_pos ex, if_pos (show cn 1 = ci 1 from rfl)]
      exact on _ _ 0 (by omega) rfl (by decide)
theorem R_stands {a b : mG} {x y : Int32} (hI : IM b) (hS : SHy a) (h : SIM a b) : rel (F_X11_stands x y a) (F_X12_stands x y b) (fun τ υ => τ.1 = υ.1) := by
  obtain ⟨n, nc, K, g2, V⟩ := SIM_K h
  have hn := K.2.2.1
  have h0 : 0 ≤ (b.1 89 0).toInt ∧ (b.1 89 0).toInt ≤ 9999 := ⟨V.1, V.2.1⟩
  unfold F_X11_stands F_X12_stands F_X11_stands_26 F_X12_stands_26
  rw [V_within, F_isIn, b1_some, b1_some]
  refine rel_ifs Iff.rfl (fun _ => rel_some rfl) (fun _ => ?_)
  have main : ∀ z : Nat, z < 24 → (y = 0 ∨ (¬ y = 0 ∧ y - c8 10 = cn z)) → rel (F_X11_stands_28 x y a) (F_X12_stands_28 x y b) (fun τ υ => τ.1 = υ.1) := fun z hz hy => by
    unfold F_X11_stands_28 F_X12_stands_28
    refine rel_l1 (V_planC (p := x) K h0 hS) (fun u qu => ?_)
    refine rel_r1 (V_laysD K.2.2.2.2 g2 hn) (fun t qt => ?_)
    obtain ⟨t1, _⟩ := qt
    obtain ⟨r0, hr0⟩ : ∃ r, rSt (fun c d => dSum (b.1 89) c d n) x 24 0 = r := ⟨_, rfl⟩
    obtain ⟨r1, hr1⟩ : ∃ r, rSt (fun c d => dSum (b.1 89) c d n) x 24 1 = r := ⟨_, rfl⟩
    have R := V_standsR (D := fun c d => dSum (b.1 89) c d n) (p := x) (y := y) hr0 hr1 (s := (mu (mu t.1 104 48 (ci 0)) 104 49 (ci 0), t.2)) (fun c hc d hd => by
      refine (mu_cellQ (i := 104) (j := 103) (Or.inl (by decide))).trans ((mu_cell (i := 104) (j := 103) (Or.inl (by decide))).trans ?_)
      rcases (show d = 0 ∨ d = 1 by omega) with e | e <;> rw [e]
      · exact (t1 c hc).1
      · exact (t1 c hc).2)
    obtain ⟨q1, q2, q3⟩ := qu
    have a0 := q3 0 (by decide) 0 (by decide)
    have a1 := q3 0 (by decide) 1 (by decide)
    have A0 : F_X10_at 80 u (ci 0) (ci 0) = some r0 := by
      rw [show (ci 0 : Int32) = cn 0 from rfl, V_at80 q1.2.2.2 q2 (Nat.le_refl _) (by decide) (by decide)]
      exact congrArg some (a0.trans hr0)
    have A1 : F_X10_at 80 u (ci 0) (ci 1) = some r1 := by
      rw [show (ci 0 : Int32) = cn 0 from rfl, show (ci 1 : Int32) = cn 1 from rfl, V_at80 q1.2.2.2 q2 (Nat.le_refl _) (by decide) (by decide)]
      exact congrArg some (a1.trans hr1)
    rcases hy with hy | ⟨hy, hz2⟩
    · rw [if_pos hy]
      unfold F_X1_mostSeen
      rw [A0, b1_some, A1, b1_some, b1_some]
      exact rel_sp R (fun v ⟨t', _, k1, _⟩ => (k1 hy).symm)
    · rw [if_neg hy, hz2]
      unfold F_X1_doorAt F_X1_doorAt_26
      rw [A0, b1_some, A1, b1_some]
      intro τ hτ υ hυ
      obtain ⟨t', T, _, r2⟩ := R υ hυ
      have r2 := r2 hy
      unfold F_X12_stands_157 at r2
      have G : ∀ d, d < 2 → F_X12_stands_L161 x y (cn d) (ci 1) t' = some υ → (b1 (F_X1_doorAt_L30 u (cn z) x (cn d) (ci 1)) fun v11 => some (v11, u)) = some τ → τ.1 = υ.1 := fun d hd h1 h2 => (rel_b1 (R := fun τ υ => τ.1 = υ.1) (R_door hz2 hz hd ⟨q1, q2, q3⟩ T) (fun v w (e : v = w.1) => rel_some (u := (v, u)) (v := w) e)) τ h2 υ (by rw [h1, b1_some])
      by_cases hl : r0 < r1
      · rw [if_pos hl] at r2 hτ
        exact G 1 (by decide) r2 hτ
      · rw [if_neg hl] at r2 hτ
        exact G 0 (by decide) r2 hτ
  refine rel_ifs Iff.rfl (fun hy => main 0 (by decide) (Or.inl hy)) (fun hy => ?_)
  rw [V_within, F_isIn, b1_some, b1_some]
  refine rel_ifs Iff.rfl (fun _ => rel_some rfl) (fun hw => ?_)
  have r := wi_f hw
  rw [show (c8 10).toInt = 10 by decide, show (c8 33).toInt = 33 by decide] at r
  have e : (y - c8 10).toInt = y.toInt - 10 := r_sub rfl (by decide : (c8 10).toInt = 10) (by omega) (by omega)
  exact main (y - c8 10).toInt.toNat (by omega) (Or.inr ⟨hy, cnof (by omega)⟩)
/-! the shapes stay -/
theorem SH_stands {a b : mG} {x y : Int32} (hS : SHy a) (h : SIM a b) : pk (F_X11_stands x y a) (fun τ => SHy τ.2) := by
  obtain ⟨n, nc, K, g2, V⟩ := SIM_K h
  have h0 : 0 ≤ (b.1 89 0).toInt ∧ (b.1 89 0).toInt ≤ 9999 := ⟨V.1, V.2.1⟩
  have main : pk (F_X11_stands_28 x y a) (fun τ => SHy τ.2) := by
    unfold F_X11_stands_28
    refine pk_b1 (V_planC (p := x) K h0 hS) (fun u qu => ?_)
    refine pk_ite ?_ ?_
    · exact pk_b1 pk_top (fun _ _ => pk_some (show SHy u from qu.1))
    · exact pk_b1 pk_top (fun _ _ => pk_some (show SHy u from qu.1))
  unfold F_X11_stands F_X11_stands_26
  refine pk_b1 pk_top (fun _ _ => ?_)
  refine pk_ite (pk_some (show SHy a from hS)) ?_
  refine pk_ite main ?_
  refine pk_b1 pk_top (fun _ _ => ?_)
  exact pk_ite (pk_some (show SHy a from hS)) main
theorem SH_of {α : Type} {G : Option (α × mG)} {M : Nat} {u : mG} (h78 : M.testBit 78 = false) (h80 : M.testBit 80 = false) (h : SHy u) (w : pk G (fun υ => KB M u υ.2)) : pk G (fun υ => SHy υ.2) := fun υ e => SHy_row h (w υ e 78 h78) (w υ e 80 h80)
def JSy (s : mG) : Prop := JS s ∧ SHy s
theorem SHy_s0 : SHy s0 := s0_b11
theorem P4y_of {α β : Type} {F : mG → Option (α × mG)} {G : mG → Option (β × mG)} {E : α × mG → β × mG → Prop} {s : mG} (h : JSy s) (hP : ok (F s) (fun τ => ok (G τ.2) (fun υ => JS υ.2 ∧ E τ υ))) (hC : pk (F s) (fun τ => SHy τ.2)) (hM : ∀ u, SHy u → pk (G u) (fun υ => SHy υ.2)) : ok (F s) (fun τ => ok (G τ.2) (fun υ => JSy υ.2 ∧ E τ υ)) := by
  obtain ⟨τ, e1, υ, e2, q1, q2⟩ := hP
  exact ⟨τ, e1, υ, e2, ⟨q1, hM τ.2 (hC τ e1) υ e2⟩, q2⟩
theorem P5y_of {F G : mG → Option (Int32 × mG)} {s : mG} (h : JSy s) (hC : ok (F s) (fun τ => JSy τ.2 ∧ ∀ j, 88 ≤ j → τ.2.1 j = s.1 j)) (hM : ∀ u, JSy u → ok (G u) (fun υ => JSy υ.2)) (hR : ∀ u, IM u → SHy s → SIM s u → rel (F s) (G u) (fun τ υ => τ.1 = υ.1)) : ok (F s) (fun τ => ok (G τ.2) (fun υ => JSy υ.2 ∧ τ.1 = υ.1)) := by
  obtain ⟨τ, e1, k1, k2⟩ := hC
  obtain ⟨υ, e2, m1⟩ := hM τ.2 k1
  exact ⟨τ, e1, υ, e2, m1, hR τ.2 k1.1.1.2.1 h.2 (SIM_C h.1.2 (fun _ _ => rfl) k2) τ e1 υ e2⟩
end
