/-! THE REFERENCE: what changes its house -/
theorem mu_cellP {s : mG} {i j k l : Nat} {v : Int32} (h : j ≠ i ∨ l ≠ k) : ((mu s.1 i k v, s.2) : mG).1 j l = s.1 j l := mu_cell h
theorem mu_rowP {s : mG} {i j k : Nat} {v : Int32} (h : j ≠ i) : ((mu s.1 i k v, s.2) : mG).1 j = s.1 j := mu_row h
def RW (s s' : mG) : Prop := IM s' ∧ (∀ j, j < 88 → s'.1 j = s.1 j) ∧ s'.1 88 15 = s.1 88 15
/-- guests' number, rooms, callers -/
def SK (j : Nat) : Prop := j = 112 ∨ j = 118 ∨ (203 ≤ j ∧ j ≤ 234) ∨ j = 1049 ∨ (1870 ≤ j ∧ j ≤ 1893)
def RX (s s' : mG) : Prop := RW s s' ∧ ∀ j, SK j → s'.1 89 j = s.1 89 j
theorem RX_112 {s s' : mG} (h : RX s s') : s'.1 89 112 = s.1 89 112 := h.2 112 (Or.inl rfl)
theorem RW_refl {s : mG} (h : IM s) : RW s s := ⟨h, fun _ _ => rfl, rfl⟩
theorem RX_refl {s : mG} (h : IM s) : RX s s := ⟨RW_refl h, fun _ _ => rfl⟩
theorem RW_tr {s s' s2 : mG} (h : RW s s') (k : RW s' s2) : RW s s2 := ⟨k.1, fun j hj => (k.2.1 j hj).trans (h.2.1 j hj), k.2.2.trans h.2.2⟩
theorem RX_tr {s s' s2 : mG} (h : RX s s') (k : RX s' s2) : RX s s2 := ⟨RW_tr h.1 k.1, fun j hj => (k.2 j hj).trans (h.2 j hj)⟩
theorem RX_RM {s s' : mG} (h : RM s s') : RX s s' := ⟨⟨h.1, fun j hj => h.2.1 j (by omega) (by omega), h.2.2.2.2⟩, fun _ _ => by rw [h.2.1 89 (by decide) (by decide)]⟩
theorem ok_rx {s0 s : mG} {o : Option mG} (h : RX s0 s) (k : ok o (RX s)) : ok o (RX s0) := ok_mono k fun _ q => RX_tr h q
theorem ok_rx2 {α : Type} {s0 s : mG} {o : Option (α × mG)} (h : RX s0 s) (k : ok o (fun τ => True ∧ RX s τ.2)) : ok o (fun τ => True ∧ RX s0 τ.2) := ok_mono k fun _ q => ⟨q.1, RX_tr h q.2⟩
def kW (j : Nat) : Prop := j = 112 ∨ (115 ≤ j ∧ j ≤ 130) ∨ (143 ≤ j ∧ j ≤ 154) ∨ (203 ≤ j ∧ j ≤ 234 ∧ j % 4 = 3) ∨ (985 ≤ j ∧ j ≤ 1032) ∨ (1049 ≤ j ∧ j ≤ 1869) ∨ (1870 ≤ j ∧ j ≤ 1893 ∧ j % 3 = 1)
def kK (j : Nat) : Prop := j = 2 ∨ (15 ≤ j ∧ j ≤ 26)
def fw (j : Nat) : Prop := ¬ kW j ∧ ¬ kK j
def fr (j : Nat) : Prop := ¬ kW j ∧ ¬ kK j ∧ ¬ SK j
theorem LawOK_congr {f f' : Nat → Int32} {k : Nat} (hk : k < 16) (h : ∀ j, (985 ≤ j ∧ j ≤ 1032) ∨ (1049 ≤ j ∧ j ≤ 1869) → f' j = f j) (q : LawOK f k) : LawOK f' k := by
  obtain ⟨a, b, c, hc, hab, hbc, ea, eb, ec, r1, r2⟩ := q
  refine ⟨a, b, c, hc, hab, hbc, (h _ (by omega)).trans ea, (h _ (by omega)).trans eb, (h _ (by omega)).trans ec, Rc_congr _ _ _ _ (fun j h1 h2 => h _ (by omega)) r1, ?_⟩
  rcases r2 with e | r2
  · exact Or.inl e
  · exact Or.inr (Rc_congr _ _ _ _ (fun j h1 h2 => h _ (by omega)) r2)
theorem WI_congr {f f' : Nat → Int32} (h : ∀ j, kW j → f' j = f j) (q : WI f) : WI f' := by
  obtain ⟨q1, q2, q3, q4, q5, q6, q7, q8, q9, q10, q11⟩ := q
  have e1 := h 112 (by unfold kW; omega)
  have e2 := h 115 (by unfold kW; omega)
  have e3 := h 116 (by unfold kW; omega)
  have e4 := h 117 (by unfold kW; omega)
  have e5 := h 118 (by unfold kW; omega)
  have e6 := h 1049 (by unfold kW; omega)
  refine ⟨by rw [e1]; exact q1, by rw [e2]; exact q2, by rw [e3]; exact q3, by rw [e4]; exact q4, by rw [e5]; exact q5, by rw [e6]; exact q6, fun k hk => ?_, fun k hk hl => ?_, fun k hk hl => ?_, fun k hk hl => ?_, fun k hk hl => ?_⟩
  · rw [h (119 + k) (by unfold kW; omega)]; exact q7 k hk
  · rw [e2] at hl; rw [h (143 + k) (by unfold kW; omega)]; exact q8 k hk hl
  · rw [e5] at hl; rw [h (203 + 4 * k) (by unfold kW; omega)]; exact q9 k hk hl
  · rw [e6] at hl; rw [h (1870 + 3 * k) (by unfold kW; omega)]; exact q10 k hk hl
  · rw [e4] at hl; exact LawOK_congr hk (fun j hj => h j (by unfold kW; omega)) (q11 k hk hl)
theorem KI_congr {n : Int} {f f' : Nat → Int32} (h : ∀ j, kK j → f' j = f j) (q : KI n f) : KI n f' := by
  obtain ⟨q1, q2, q3⟩ := q
  have e1 := h 2 (by unfold kK; omega)
  refine ⟨by rw [e1]; exact q1, fun a ha hn => ?_, fun a b ha hb hn hm he hz => ?_⟩
  · rw [h (15 + a) (by unfold kK; omega)]; exact q2 a ha hn
  · rw [h (15 + a) (by unfold kK; omega), h (15 + b) (by unfold kK; omega)] at he
    rw [h (15 + a) (by unfold kK; omega)] at hz
    exact q3 a b ha hb hn hm he hz
theorem IM_mk {s s' : mG} (h : IM s) (hW : WI (s'.1 89)) (hK : KI (s'.1 89 112).toInt (s'.1 89)) (h112 : s'.1 89 112 = s.1 89 112) (h90 : s'.1 90 = s.1 90) (h91 : s'.1 91 = s.1 91) (h3 : s'.1 88 3 = s.1 88 3) (h4 : s'.1 88 4 = s.1 88 4) (h15 : s'.1 88 15 = s.1 88 15) : IM s' := by
  refine ⟨hW, hK, ?_, ?_, ?_, ?_⟩
  · rw [h4, h90]; exact h.2.2.1
  · rw [h3]; exact h.2.2.2.1
  · rw [h3, h91, h112]; exact h.2.2.2.2.1
  · rw [h15]; exact h.2.2.2.2.2
theorem IM_free {s : mG} {k : Nat} {v : Int32} (h : IM s) (hk : fw k) : IM (mu s.1 89 k v, s.2) := by
  have e112 : (mu s.1 89 k v, s.2).1 89 112 = s.1 89 112 := mu_cellP (Or.inr fun e => hk.1 (e ▸ (by unfold kW; omega : kW 112)))
  refine IM_mk h ?_ ?_ e112 (mu_rowP (by decide)) (mu_rowP (by decide)) (mu_cellP (by omega)) (mu_cellP (by omega)) (mu_cellP (by omega))
  · exact WI_congr (fun j hj => mu_cellP (Or.inr fun e => hk.1 (e ▸ hj))) h.1
  · rw [e112]; exact KI_congr (fun j hj => mu_cellP (Or.inr fun e => hk.2 (e ▸ hj))) h.2.1
theorem RX_mk {s0 s s' : mG} (h : RX s0 s) (hI : IM s') (h1 : ∀ j, j < 88 → s'.1 j = s.1 j) (h2 : s'.1 88 15 = s.1 88 15) (h3 : ∀ j, SK j → s'.1 89 j = s.1 89 j) : RX s0 s' := RX_tr h ⟨⟨hI, h1, h2⟩, h3⟩
theorem RW_mk {s0 s s' : mG} (h : RW s0 s) (hI : IM s') (h1 : ∀ j, j < 88 → s'.1 j = s.1 j) (h2 : s'.1 88 15 = s.1 88 15) : RW s0 s' := RW_tr h ⟨hI, h1, h2⟩
theorem RW_fe {s0 s : mG} {e v : Int32} {m : Int} (h : RW s0 s) (he : e.toInt = m) (hk : fw m.toNat) : RW s0 (mu s.1 89 e.toNatClampNeg v, s.2) := by
  rw [t_nat, he]; exact RW_mk h (IM_free h.1 hk) (fun j hj => mu_rowP (by omega)) (mu_cellP (by omega))
theorem RX_free {s0 s : mG} {k : Nat} {v : Int32} (h : RX s0 s) (hk : fr k) : RX s0 (mu s.1 89 k v, s.2) :=
  RX_mk h (IM_free h.1.1 ⟨hk.1, hk.2.1⟩) (fun j hj => mu_rowP (by omega)) (mu_cellP (by omega)) (fun j hj => mu_cellP (Or.inr fun e => hk.2.2 (e ▸ hj)))
theorem RX_fe {s0 s : mG} {e v : Int32} {m : Int} (h : RX s0 s) (he : e.toInt = m) (hk : fr m.toNat) : RX s0 (mu s.1 89 e.toNatClampNeg v, s.2) := by
  rw [t_nat, he]; exact RX_free h hk
theorem IM_forget {s : mG} (h : IM s) : IM (mu s.1 88 3 (ci 0), s.2) := by
  have e : ∀ j, j ≠ 88 → (mu s.1 88 3 (ci 0), s.2).1 j = s.1 j := fun j hj => mu_rowP hj
  have e3 : (mu s.1 88 3 (ci 0), s.2).1 88 3 = ci 0 := mu_sameP
  have z : (ci 0).toInt = 0 := by decide
  refine ⟨?_, ?_, ?_, ?_, ?_, ?_⟩
  · rw [e 89 (by decide)]; exact h.1
  · rw [e 89 (by decide)]; exact h.2.1
  · rw [e 90 (by decide), show (mu s.1 88 3 (ci 0), s.2).1 88 4 = s.1 88 4 from mu_cellP (by decide)]; exact h.2.2.1
  · rw [e3, z]; omega
  · intro j _ hj; rw [e3, z] at hj; omega
  · rw [show (mu s.1 88 3 (ci 0), s.2).1 88 15 = s.1 88 15 from mu_cellP (by decide)]; exact h.2.2.2.2.2
theorem RX_forget {s0 s : mG} (h : RX s0 s) : RX s0 (mu s.1 88 3 (ci 0), s.2) :=
  RX_mk h (IM_forget h.1.1) (fun j hj => mu_rowP (by omega)) (mu_cellP (by omega)) (fun j _ => mu_cellP (by omega))
theorem T_X12_forgets {s : mG} (hI : IM s) : ok (F_X12_forgets s) (RX s) := by
  unfold F_X12_forgets
  exact ok_some (RX_forget (RX_refl hI))
theorem T_X12_state {a1 : Int32} {s : mG} (hI : IM s) : ok (F_X12_state a1 s) (fun τ => True ∧ RX s τ.2) := by
  unfold F_X12_state
  extract_lets +onlyGivenNames s1
  have h1 : RX s s1 := RX_free (RX_refl hI) (by unfold fr kW kK SK; omega)
  clear_value s1
  refine ok_b1 (ok_rx h1 (T_X12_forgets h1.1.1)) (fun s3 (h3 : RX s s3) => ?_)
  exact ok_some ⟨trivial, h3⟩
theorem T_X12_draw {a1 : Int32} {s : mG} (h : ¬ a1 = 0) (hI : IM s) : ok (F_X12_draw a1 s) (fun τ => True ∧ RX s τ.2) := by
  unfold F_X12_draw
  extract_lets +onlyGivenNames s1
  have h1 : RX s s1 := RX_free (RX_refl hI) (by unfold fr kW kK SK; omega)
  clear_value s1
  exact ok_nn h (ok_some ⟨trivial, h1⟩)
theorem n1000 : ¬ c16 1000 = 0 := by decide
theorem IM_2 {s : mG} {v : Int32} (h : IM s) (hv : 0 ≤ v.toInt ∧ v.toInt ≤ 150) : IM (mu s.1 89 2 v, s.2) := by
  have e112 : (mu s.1 89 2 v, s.2).1 89 112 = s.1 89 112 := mu_cellP (by decide)
  refine IM_mk h ?_ ?_ e112 (mu_rowP (by decide)) (mu_rowP (by decide)) (mu_cellP (by omega)) (mu_cellP (by omega)) (mu_cellP (by omega))
  · exact WI_congr (fun j hj => mu_cellP (Or.inr fun e => by subst e; unfold kW at hj; omega)) h.1
  · rw [e112]
    have c : ∀ a, (mu s.1 89 2 v, s.2).1 89 (15 + a) = s.1 89 (15 + a) := fun a => mu_cellP (by omega)
    refine ⟨?_, fun a ha hn => ?_, fun a b ha hb hn hm he hz => ?_⟩
    · rw [show (mu s.1 89 2 v, s.2).1 89 2 = v from mu_sameP]; exact hv
    · rw [c]; exact h.2.1.2.1 a ha hn
    · rw [c, c] at he; rw [c] at hz; exact h.2.1.2.2 a b ha hb hn hm he hz
theorem RX_2 {s0 s : mG} {v : Int32} (h : RX s0 s) (hv : 0 ≤ v.toInt ∧ v.toInt ≤ 150) : RX s0 (mu s.1 89 2 v, s.2) :=
  RX_mk h (IM_2 h.1.1 hv) (fun j hj => mu_rowP (by omega)) (mu_cellP (by omega)) (fun j hj => mu_cellP (by unfold SK at hj; omega))
theorem keep2 {s : mG} {e v : Int32} {m : Int} (he : e.toInt = m) (hm : 3 ≤ m) : ((mu s.1 89 e.toNatClampNeg v, s.2) : mG).1 89 2 = s.1 89 2 := mu_cellP (Or.inr (by rw [t_nat, he]; omega))
theorem T_X12_notes {a1 a2 a3 a4 : Int32} {s : mG} (hI : IM s) : ok (F_X12_notes a1 a2 a3 a4 s) (RX s) := by
  unfold F_X12_notes
  have i := im_2 hI
  refine ok_ite (fun _ => ok_some (RX_refl hI)) (fun c => ?_)
  have c2 := r_ne (rfl : (s.1 89 2).toInt = _) (by decide : (c16 150).toInt = 150) c
  extract_lets +onlyGivenNames v2
  have e : v2.toInt = 235 + 5 * (s.1 89 2).toInt := r_add (by decide) (r_mul (by decide) rfl (by omega) (by omega)) (by omega) (by omega)
  clear_value v2
  refine ok_nn (ix_ok e (by omega) (by omega)) ?_
  extract_lets +onlyGivenNames s4
  have h4 : RX s s4 := RX_fe (RX_refl hI) e (by unfold fr kW kK SK; omega)
  have b4 : s4.1 89 2 = s.1 89 2 := keep2 e (by omega)
  clear_value s4
  refine ok_nn (ix_ok (r_add e (by decide : (ci 1).toInt = 1) (by omega) (by omega)) (by omega) (by omega)) ?_
  extract_lets +onlyGivenNames s6
  have h6 : RX s s6 := RX_fe h4 (r_add e (by decide : (ci 1).toInt = 1) (by omega) (by omega)) (by unfold fr kW kK SK; omega)
  have b6 : s6.1 89 2 = s4.1 89 2 := keep2 (r_add e (by decide : (ci 1).toInt = 1) (by omega) (by omega)) (by omega)
  clear_value s6
  refine ok_nn (ix_ok (r_add e (by decide : (ci 2).toInt = 2) (by omega) (by omega)) (by omega) (by omega)) ?_
  extract_lets +onlyGivenNames s8
  have h8 : RX s s8 := RX_fe h6 (r_add e (by decide : (ci 2).toInt = 2) (by omega) (by omega)) (by unfold fr kW kK SK; omega)
  have b8 : s8.1 89 2 = s6.1 89 2 := keep2 (r_add e (by decide : (ci 2).toInt = 2) (by omega) (by omega)) (by omega)
  clear_value s8
  refine ok_nn (ix_ok (r_add e (by decide : (ci 3).toInt = 3) (by omega) (by omega)) (by omega) (by omega)) ?_
  extract_lets +onlyGivenNames s10
  have h10 : RX s s10 := RX_fe h8 (r_add e (by decide : (ci 3).toInt = 3) (by omega) (by omega)) (by unfold fr kW kK SK; omega)
  have b10 : s10.1 89 2 = s8.1 89 2 := keep2 (r_add e (by decide : (ci 3).toInt = 3) (by omega) (by omega)) (by omega)
  clear_value s10
  refine ok_nn (ix_ok (r_add e (by decide : (ci 4).toInt = 4) (by omega) (by omega)) (by omega) (by omega)) ?_
  extract_lets +onlyGivenNames s12
  have h12 : RX s s12 := RX_fe h10 (r_add e (by decide : (ci 4).toInt = 4) (by omega) (by omega)) (by unfold fr kW kK SK; omega)
  have b12 : s12.1 89 2 = s10.1 89 2 := keep2 (r_add e (by decide : (ci 4).toInt = 4) (by omega) (by omega)) (by omega)
  clear_value s12
  have q : s12.1 89 2 = s.1 89 2 := b12.trans (b10.trans (b8.trans (b6.trans b4)))
  extract_lets +onlyGivenNames s13
  have h13 : RX s s13 := RX_2 h12 (by rw [q, t_up (by omega)]; omega)
  clear_value s13
  exact ok_some h13
/-! hooks -/
def Hk (s : mG) (v : Int32) : Prop := v = ci (-1) ∨ (0 ≤ v.toInt ∧ v.toInt < (s.1 89 112).toInt ∧ ∀ a : Nat, (a : Int) < (s.1 89 112).toInt → s.1 89 (15 + a) ≠ v)
theorem IM_key {s : mG} {g : Nat} {v : Int32} (h : IM s) (hgn : (g : Int) < (s.1 89 112).toInt) (hv : Hk s v) : IM (mu s.1 89 (15 + g) v, s.2) := by
  have i := im_112 h
  have e112 : (mu s.1 89 (15 + g) v, s.2).1 89 112 = s.1 89 112 := mu_cellP (by omega)
  refine IM_mk h ?_ ?_ e112 (mu_rowP (by decide)) (mu_rowP (by decide)) (mu_cellP (by omega)) (mu_cellP (by omega)) (mu_cellP (by omega))
  · exact WI_congr (fun j hj => mu_cellP (Or.inr fun e => by subst e; unfold kW at hj; omega)) h.1
  · rw [e112]
    have c : ∀ a, a ≠ g → (mu s.1 89 (15 + g) v, s.2).1 89 (15 + a) = s.1 89 (15 + a) := fun a ha => mu_cellP (by omega)
    have cg : (mu s.1 89 (15 + g) v, s.2).1 89 (15 + g) = v := mu_sameP
    refine ⟨?_, fun a ha hn => ?_, fun a b ha hb hn hm he hz => ?_⟩
    · rw [show (mu s.1 89 (15 + g) v, s.2).1 89 2 = s.1 89 2 from mu_cellP (by omega)]; exact h.2.1.1
    · by_cases q : a = g
      · subst q
        rw [cg]
        rcases hv with e | e
        · rw [e, show (ci (-1)).toInt = -1 by decide]; omega
        · omega
      · rw [c a q]; exact h.2.1.2.1 a ha hn
    · by_cases q : a = g
      · subst q
        by_cases w : b = a
        · exact w.symm
        · rw [cg, c b w] at he
          rw [cg] at hz
          rcases hv with e | e
          · exact absurd e hz
          · exact absurd he.symm (e.2.2 b hm)
      · by_cases w : b = g
        · subst w
          rw [cg, c a q] at he
          rw [c a q] at hz
          rcases hv with e | e
          · exact absurd (he.trans e) hz
          · exact absurd he (e.2.2 a hn)
        · rw [c a q, c b w] at he
          rw [c a q] at hz
          exact h.2.1.2.2 a b ha hb hn hm he hz
theorem RX_key {s0 s : mG} {x v : Int32} (h : RX s0 s) (h0 : 0 ≤ x.toInt) (h1 : x.toInt < (s.1 89 112).toInt) (hv : Hk s v) : RX s0 (mu s.1 89 ((c8 15) + x).toNatClampNeg v, s.2) := by
  have i := im_112 h.1.1
  rw [r_ix (b := 15) (by decide) h0 (by omega) (by decide)]
  exact RX_mk h (IM_key h.1.1 (by omega) hv) (fun j hj => mu_rowP (by omega)) (mu_cellP (by omega)) (fun j hj => mu_cellP (by unfold SK at hj; omega))
theorem rm_r {x y : Int32} (hx : 0 ≤ x.toInt) (hy : 0 < y.toInt) : (rm x y).toInt = x.toInt % y.toInt := by
  have l := @t_lt x
  have d0 : 0 ≤ x.toInt / y.toInt := Int.ediv_nonneg hx (by omega)
  have d1 : x.toInt / y.toInt ≤ x.toInt := Int.ediv_le_self _ hx
  have ed : (x / y).toInt = x.toInt / y.toInt := by
    rw [Int32.toInt_div, Int.tdiv_eq_ediv_of_nonneg hx]
    exact Int.bmod_eq_of_le (by omega) (by omega)
  have hm := Int.emod_add_mul_ediv x.toInt y.toInt
  have m0 := Int.emod_nonneg x.toInt (show y.toInt ≠ 0 by omega)
  have hp : 0 ≤ x.toInt / y.toInt * y.toInt := Int.mul_nonneg d0 (by omega)
  rw [Int.mul_comm] at hm
  show (x - x / y * y).toInt = _
  rw [r_sub rfl (r_mul ed rfl (by omega) (by omega)) (by omega) (by omega)]
  omega
theorem T_hangs_62 {x1 : Int32} {s : mG} (h : 0 ≤ x1.toInt ∧ x1.toInt < (s.1 89 112).toInt) (hI : IM s) : ok (F_X12_hangsOn_62 x1 s) (fun τ => Hk τ.2 τ.1 ∧ RX s τ.2) := by
  unfold F_X12_hangsOn_62
  refine ok_b1 (T_X12_keyOn hI) (fun v hv => ?_)
  refine ok_ite (fun c => ?_) (fun _ => ?_)
  · exact ok_some ⟨Or.inr ⟨h.1, h.2, hv c⟩, RX_refl hI⟩
  · exact ok_some ⟨Or.inl rfl, RX_refl hI⟩
theorem T_hangs_29 {x1 y0 : Int32} {s : mG} (h : 0 ≤ x1.toInt ∧ x1.toInt < (s.1 89 112).toInt) (hI : IM s) : ok (F_X12_hangsOn_29 x1 y0 s) (fun τ => Hk τ.2 τ.1 ∧ RX s τ.2) := by
  have i := im_112 hI
  unfold F_X12_hangsOn_29
  refine ok_nn (fun q => ?_) ?_
  · have q2 := r_eq (rfl : (s.1 89 112).toInt = _) t_zero q
    omega
  · extract_lets +onlyGivenNames v10
    have e : v10.toInt = (x1 + ci 1).toInt % (s.1 89 112).toInt := rm_r (by rw [t_up (by omega)]; omega) (by omega)
    rw [t_up (by omega)] at e
    clear_value v10
    have b : 0 ≤ v10.toInt ∧ v10.toInt < (s.1 89 112).toInt := by
      rw [e]
      exact ⟨Int.emod_nonneg _ (by omega), Int.emod_lt_of_pos _ (by omega)⟩
    refine ok_ite (fun _ => T_hangs_62 h hI) (fun _ => ?_)
    refine ok_b1 (T_X12_keyOn hI) (fun v hv => ?_)
    refine ok_ite (fun c => ?_) (fun _ => T_hangs_62 h hI)
    exact ok_some ⟨Or.inr ⟨b.1, b.2, hv c⟩, RX_refl hI⟩
theorem T_X12_hangsOn {a1 a2 a3 : Int32} {s : mG} (h : 0 ≤ a1.toInt ∧ a1.toInt < (s.1 89 112).toInt) (hI : IM s) : ok (F_X12_hangsOn a1 a2 a3 s) (fun τ => Hk τ.2 τ.1 ∧ RX s τ.2) := by
  unfold F_X12_hangsOn
  refine ok_b2 (T_X12_draw n1000 hI) (fun v3 s2 (h2 : True ∧ RX s s2) => ?_)
  refine ok_ite (fun _ => ?_) (fun _ => ok_some ⟨Or.inl rfl, h2.2⟩)
  refine ok_b2 (ok_rx2 h2.2 (T_X12_draw n1000 h2.2.1.1)) (fun v7 s6 (h6 : True ∧ RX s s6) => ?_)
  have h' : 0 ≤ a1.toInt ∧ a1.toInt < (s6.1 89 112).toInt := by rw [RX_112 h6.2]; exact h
  refine ok_ite (fun _ => ?_) (fun _ => ?_)
  · exact ok_mono (T_hangs_29 h' h6.2.1.1) (fun τ q => ⟨q.1, RX_tr h6.2 q.2⟩)
  · exact ok_mono (T_hangs_29 h' h6.2.1.1) (fun τ q => ⟨q.1, RX_tr h6.2 q.2⟩)
theorem T_moved_136 {x1 x2 x7 v : Int32} {s0 s : mG} (h : RX s0 s) (hg : 0 ≤ x1.toInt ∧ x1.toInt < (s.1 89 112).toInt) (hv : Hk s v) : ok (F_X12_isMoved_136 x1 x2 x7 ((c8 15) + x1) v s) (fun τ => PB τ.1 ∧ RX s0 τ.2) := by
  have i := im_112 h.1.1
  unfold F_X12_isMoved_136
  refine ok_nn (ix_ok (r_add (by decide : (c8 15).toInt = 15) (rfl : x1.toInt = _) (by omega) (by omega)) (by omega) (by omega)) ?_
  extract_lets +onlyGivenNames s32
  have h32 : RX s0 s32 := RX_key h hg.1 hg.2 hv
  clear_value s32
  have fin : ∀ y, ok (F_X12_isMoved_147 x1 x7 y s32) (fun τ => PB τ.1 ∧ RX s0 τ.2) := by
    intro y
    unfold F_X12_isMoved_147
    refine ok_b1 (T_X12_clerkAt h32.1.1) (fun v35 _ => ?_)
    refine ok_b1 (ok_rx h32 (T_X12_notes h32.1.1)) (fun s37 (h37 : RX s0 s37) => ?_)
    exact ok_some ⟨pb1, h37⟩
  exact ok_ite (fun _ => fin _) (fun _ => fin _)
theorem T_moved_110 {x1 x2 x5 x6 x7 y2 : Int32} {s0 s : mG} (h : RX s0 s) (hg : 0 ≤ x1.toInt ∧ x1.toInt < (s.1 89 112).toInt) : ok (F_X12_isMoved_110 x1 x2 x5 x6 x7 ((ci 3) + x1) y2 s) (fun τ => PB τ.1 ∧ RX s0 τ.2) := by
  have i := im_112 h.1.1
  unfold F_X12_isMoved_110
  refine ok_nn (ix_ok (r_add (by decide : (ci 3).toInt = 3) (rfl : x1.toInt = _) (by omega) (by omega)) (by omega) (by omega)) ?_
  extract_lets +onlyGivenNames s26
  have h26 : RX s s26 := RX_fe (RX_refl h.1.1) (r_add (by decide : (ci 3).toInt = 3) (rfl : x1.toInt = _) (by omega) (by omega)) (by unfold fr kW kK SK; omega)
  clear_value s26
  have hg' : 0 ≤ x1.toInt ∧ x1.toInt < (s26.1 89 112).toInt := by rw [RX_112 h26]; exact hg
  refine ok_ite (fun _ => ?_) (fun _ => ?_)
  · refine ok_b2 (T_X12_hangsOn hg' h26.1.1) (fun v30 s29 (h29 : Hk s29 v30 ∧ RX s26 s29) => ?_)
    exact T_moved_136 (RX_tr (RX_tr h h26) h29.2) (by rw [RX_112 h29.2]; exact hg') h29.1
  · exact T_moved_136 (RX_tr h h26) hg' (Or.inl rfl)
theorem T_moved_30 {x1 x2 y1 : Int32} {s : mG} (hg : 0 ≤ x1.toInt ∧ x1.toInt < (s.1 89 112).toInt) (hI : IM s) : ok (F_X12_isMoved_30 x1 x2 y1 s) (fun τ => PB τ.1 ∧ RX s τ.2) := by
  have i := im_112 hI
  have g12 : 0 ≤ x1.toInt ∧ x1.toInt < 12 := ⟨hg.1, by omega⟩
  unfold F_X12_isMoved_30
  refine ok_b2 (T_X12_saysNow g12 hI) (fun v6 s5 h5 => ?_)
  have h5 : RX s s5 := RX_RM h5.2
  refine ok_b2 (T_X12_saysNow g12 h5.1.1) (fun v9 s8 h8 => ?_)
  have h8 : RX s s8 := RX_tr h5 (RX_RM h8.2)
  refine ok_b2 (T_X12_saysNow g12 h8.1.1) (fun v12 s11 h11 => ?_)
  have h11 : RX s s11 := RX_tr h8 (RX_RM h11.2)
  refine ok_b2 (T_X12_saysNow g12 h11.1.1) (fun v15 s14 h14 => ?_)
  have h14 : RX s s14 := RX_tr h11 (RX_RM h14.2)
  refine ok_b2 (ok_rx2 h14 (T_X12_draw n1000 h14.1.1)) (fun v18 s17 (h17 : True ∧ RX s s17) => ?_)
  refine ok_ite (fun _ => ?_) (fun _ => ok_some ⟨pb0, h17.2⟩)
  refine ok_b2 (ok_rx2 h17.2 (T_X12_draw n1000 h17.2.1.1)) (fun v22 s21 (h21 : True ∧ RX s s21) => ?_)
  have hg' : 0 ≤ x1.toInt ∧ x1.toInt < (s21.1 89 112).toInt := by rw [RX_112 h21.2]; exact hg
  have fin : ∀ y, ok (F_X12_isMoved_92 x1 x2 v12 v15 y s21) (fun τ => PB τ.1 ∧ RX s τ.2) := by
    intro y
    unfold F_X12_isMoved_92
    exact ok_ite (fun _ => T_moved_110 h21.2 hg') (fun _ => T_moved_110 h21.2 hg')
  exact ok_ite (fun _ => fin _) (fun _ => fin _)
theorem T_X12_isMoved {a1 : Int32} {s : mG} (hg : 0 ≤ a1.toInt ∧ a1.toInt < (s.1 89 112).toInt) (hI : IM s) : ok (F_X12_isMoved a1 s) (fun τ => PB τ.1 ∧ RX s τ.2) := by
  have i := im_112 hI
  unfold F_X12_isMoved F_X12_isMoved_17
  refine ok_nn (ix_ok (r_add (by decide : (ci 3).toInt = 3) (rfl : a1.toInt = _) (by omega) (by omega)) (by omega) (by omega)) ?_
  refine ok_ite (fun _ => ?_) (fun _ => ?_)
  · exact ok_ite (fun _ => T_moved_30 hg hI) (fun _ => T_moved_30 hg hI)
  · exact ok_ite (fun _ => T_moved_30 hg hI) (fun _ => T_moved_30 hg hI)
theorem T_X12_anHour {s : mG} (hI : IM s) : ok (F_X12_anHour s) (fun τ => True ∧ RX s τ.2) := by
  unfold F_X12_anHour F_X12_anHour_L4
  refine ok_whl (fun v => RX s v.2.2 ∧ 0 ≤ v.2.1.toInt) (fun v => mUp v.2.1) ⟨RX_refl hI, show 0 ≤ (ci 0).toInt by decide⟩ (fun v hv => ?_)
  obtain ⟨x1, x2, s1⟩ := v
  obtain ⟨r1, r2⟩ := hv
  have h1 : RX s s1 := r1
  have h2 : 0 ≤ x2.toInt := r2
  clear r1 r2
  have i := im_112 h1.1.1
  show ok (F_X12_anHour_B4 x1 x2 s1) _
  unfold F_X12_anHour_B4
  refine ok_ite (fun _ => ?_) (fun c => ?_)
  · extract_lets +onlyGivenNames s2
    have hs2 : RX s s2 := RX_free h1 (by unfold fr kW kK SK; omega)
    clear_value s2
    exact ok_some (lp_inr ⟨trivial, hs2⟩)
  · have c2 := r_nle (rfl : (s1.1 89 112).toInt = _) (rfl : x2.toInt = _) c
    refine ok_b2 (T_X12_isMoved ⟨h2, c2⟩ h1.1.1) (fun v5 s4 h4 => ?_)
    have h4 : RX s s4 := RX_tr h1 h4.2
    have fin : ∀ y, ok (F_X12_anHour_54 x1 x2 v5 ((c8 27) + x2) y s4) (lpost (fun v => RX s v.2.2 ∧ 0 ≤ v.2.1.toInt) (fun (v : Int32 × Int32 × mG) => mUp v.2.1) (mUp x2) (fun τ => True ∧ RX s τ.2)) := by
      intro y
      unfold F_X12_anHour_54
      refine ok_nn (ix_ok (r_add (by decide : (c8 27).toInt = 27) (rfl : x2.toInt = _) (by omega) (by omega)) (by omega) (by omega)) ?_
      extract_lets +onlyGivenNames s11
      have h11 : RX s s11 := RX_fe h4 (r_add (by decide : (c8 27).toInt = 27) (rfl : x2.toInt = _) (by omega) (by omega)) (by unfold fr kW kK SK; omega)
      clear_value s11
      unfold F_X12_anHour_65
      exact ok_ite (fun _ => ok_some (lp_inl ⟨h11, up_0 (x := x2) h2 (by omega)⟩ (up_t (x := x2) (by omega)))) (fun _ => ok_some (lp_inl ⟨h11, up_0 (x := x2) h2 (by omega)⟩ (up_t (x := x2) (by omega))))
    refine ok_ite (fun _ => ?_) (fun _ => fin _)
    refine ok_nn (ix_ok (r_add (by decide : (c8 27).toInt = 27) (rfl : x2.toInt = _) (by omega) (by omega)) (by omega) (by omega)) ?_
    refine ok_b1 (T_X12_lesser rfl h4.1.1) (fun v9 _ => ?_)
    exact fin _
