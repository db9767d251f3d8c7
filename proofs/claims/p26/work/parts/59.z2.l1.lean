noncomputable section
/-! GUESTS, ROOMS, CALLERS: what both answer -/
theorem KB_rng {M : Nat} {z s : mG} (h : KB M z s) {a n : Nat} (d : (List.range' a n).all (fun j => !(M.testBit j)) = true) : ∀ j, a ≤ j → j < a + n → s.1 j = z.1 j := fun j h1 h2 => by
  refine h j ?_
  have h3 := List.all_eq_true.mp d j (List.mem_range'.mpr ⟨j - a, by omega, by omega⟩)
  simpa using h3
theorem kv0 {i k : Nat} {s : mG} : KV i k (s.1 i k) s := rfl
theorem ok_k {α : Type} {o : Option α} {P K Q : α → Prop} (h : ok o P) (k : pk o K) (m : ∀ a, P a → K a → Q a) : ok o Q := by
  obtain ⟨a, h1, h2⟩ := h
  exact ⟨a, h1, m a h2 (k a h1)⟩
theorem ok_kk {α : Type} {o : Option α} {P K L Q : α → Prop} (h : ok o P) (k : pk o K) (l : pk o L) (m : ∀ a, P a → K a → L a → Q a) : ok o Q := by
  obtain ⟨a, h1, h2⟩ := h
  exact ⟨a, h1, m a h2 (k a h1) (l a h1)⟩
def R1h (rg rr rc : Int32) (w : Nat → Int32) : Prop := rg = w 112 ∧ rr = w 118 ∧ rc = w 1049
def R1 (s : mG) : Prop := R1h (s.1 2 3) (s.1 14 3) (s.1 16 3) (s.1 89) ∧ PB (s.1 88 4) ∧ s.1 0 2 = s.1 88 4 ∧ (s.1 88 4 ≠ 0 → R1h (s.1 19 3) (s.1 31 3) (s.1 33 3) (s.1 90))
def JL (s : mG) : Prop := IC s ∧ IM s ∧ C1 s ∧ R1 s
theorem IM_rows {s s' : mG} (h : ∀ j, 88 ≤ j → s'.1 j = s.1 j) (hI : IM s) : IM s' := by
  unfold IM
  rw [h 88 (by decide), h 89 (by decide), h 90 (by decide), h 91 (by decide)]
  exact hI
theorem IC_rows {s s' : mG} (h : ∀ j, j < 88 → s'.1 j = s.1 j) (hI : IC s) : IC s' := by
  unfold IC
  rw [h 2 (by decide)]
  exact hI
theorem C1_rows {s s' : mG} (h : ∀ j, j < 88 → s'.1 j = s.1 j) (hI : C1 s) : C1 s' :=
  C1_same hI (h 2 (by decide)) (h 14 (by decide)) (h 16 (by decide)) (fun j _ h2 => h j (by omega)) (fun j _ h2 => h j (by omega))
/-- a call of the class that leaves these numbers -/
theorem JC {b : Bool} {s s' : mG} (h : JL s) (k : RC b s s') (c : C1 s') (e0 : s'.1 0 = s.1 0) (e2 : s'.1 2 3 = s.1 2 3) (e14 : s'.1 14 = s.1 14) (e16 : s'.1 16 = s.1 16) (ek : ∀ j, 19 ≤ j → j ≤ 33 → s'.1 j = s.1 j) : JL s' := by
  refine ⟨k.1, IM_rows k.2.1 h.2.1, c, ?_⟩
  unfold R1
  rw [e0, e2, e14, e16, ek 19 (by decide) (by decide), ek 31 (by decide) (by decide), ek 33 (by decide) (by decide), k.2.1 88 (by decide), k.2.1 89 (by decide), k.2.1 90 (by decide)]
  exact h.2.2.2
/-- thinking of the class: rows 68 to 87 alone -/
def MTH : Nat := 309485009821345068724781056 - 295147905179352825856
theorem JCt {b : Bool} {s s' : mG} (h : JL s) (k : RC b s s') (q : KB MTH s s') : JL s' := by
  have r := KB_rng q (a := 0) (n := 68) (by decide +kernel)
  refine JC h k (C1_same h.2.2.1 (r 2 (by decide) (by decide)) (r 14 (by decide) (by decide)) (r 16 (by decide) (by decide)) (fun j _ h2 => r j (by omega) (by omega)) (fun j _ h2 => r j (by omega) (by omega))) (r 0 (by decide) (by decide)) (by rw [r 2 (by decide) (by decide)]) (r 14 (by decide) (by decide)) (r 16 (by decide) (by decide)) (fun j _ h2 => r j (by omega) (by omega))
/-- a call of the reference that leaves these numbers -/
theorem JM {s s' : mG} (h : JL s) (k : RF s s') (e4 : s'.1 88 4 = s.1 88 4) (e90 : s'.1 90 = s.1 90) : JL s' := by
  refine ⟨IC_rows k.2.1 h.1, k.1, C1_rows k.2.1 h.2.2.1, ?_⟩
  unfold R1 R1h
  rw [e4, e90, k.2.1 0 (by decide), k.2.1 2 (by decide), k.2.1 14 (by decide), k.2.1 16 (by decide), k.2.1 19 (by decide), k.2.1 31 (by decide), k.2.1 33 (by decide), k.2.2 112 (by unfold SK; omega), k.2.2 118 (by unfold SK; omega), k.2.2 1049 (by unfold SK; omega)]
  exact h.2.2.2
theorem RM_RF {s s' : mG} (h : RM s s') (hl : ∀ j, j < 88 → s'.1 j = s.1 j) : RF s s' := ⟨h.1, hl, fun j _ => by rw [h.2.1 89 (by decide) (by decide)]⟩
theorem JMt {s s' : mG} (h : JL s) (k : RM s s') : JL s' := JM h ⟨k.1, fun j hj => k.2.1 j (by omega) (by omega), fun j _ => by rw [k.2.1 89 (by decide) (by decide)]⟩ k.2.2.2.1 (k.2.1 90 (by decide) (by decide))
/-! the class's other mutators -/
theorem V_putF {t : Nat} {s : mG} {a b c : Int32} : pk (F_X10_put t a b c s) (fun s' => ∀ i, i ≠ t + 1 → s'.1 i = s.1 i) := fun s' h => by
  obtain ⟨u, h1, h2, h3⟩ := X10_put_tot t s a b c
  rw [h1] at h
  exact Option.some.inj h ▸ h3
theorem C1_state {a1 : Int32} {s : mG} (h : C1 s) : pk (F_X11_state a1 s) (fun τ => C1 τ.2) := by
  unfold F_X11_state F_X5_forget
  dsimp only [b1_some]
  refine pk_some (C1_forget h (TS_row h.1.1 ?_) ?_ ?_ (fun j _ h2 => ?_) (fun j h1 _ => ?_) mu_sameP ?_)
  all_goals dsimp only
  all_goals first
    | rw [mu_row (by omega), mu_row (by omega)]
    | rw [mu_cell (by omega), mu_row (by omega)]
theorem C1_set {a1 a2 a3 : Int32} {s : mG} (h : C1 s) : pk (F_X11_set a1 a2 a3 s) (fun τ => C1 τ.2) := by
  have fin : ∀ u : mG, (∀ i, i ≠ 1 → i ≠ 3 → u.1 i = s.1 i) → pk (F_X11_set_56 u) (fun τ => C1 τ.2) := by
    intro u hu
    unfold F_X11_set_56 F_X5_forget
    dsimp only
    rw [b1_some]
    refine pk_some (C1_forget h (TS_row h.1.1 ?_) ?_ ?_ (fun j _ h2 => ?_) (fun j h1 _ => ?_) mu_sameP ?_)
    all_goals dsimp only
    all_goals first
      | (rw [mu_row (by omega)]; exact hu _ (by omega) (by omega))
      | (rw [mu_cell (by omega)]; exact congrFun (hu 35 (by omega) (by omega)) 2)
  unfold F_X11_set
  refine pk_b1 pk_top (fun _ _ => pk_ite (pk_some h) (pk_ite ?_ (pk_ite ?_ ?_)))
  · exact fin _ (fun i h1 _ => mu_row h1)
  · exact fin _ (fun i h1 _ => mu_row h1)
  · exact pk_b1 V_putF (fun u hu => fin u (fun i _ h3 => hu i h3))
theorem C1_hang {a1 a2 : Int32} {s : mG} (h : C1 s) : pk (F_X11_hang a1 a2 s) (fun τ => C1 τ.2) := by
  have no : pk (F_X11_hang_44 s) (fun τ => C1 τ.2) := pk_some h
  unfold F_X11_hang
  refine pk_b1 pk_top (fun _ _ => pk_ite no ?_)
  refine pk_b1 pk_top (fun _ _ => pk_ite no ?_)
  refine pk_b1 pk_top (fun _ _ => pk_ite no ?_)
  refine pk_b1 pk_top (fun _ _ => pk_ite ?_ no)
  refine pk_b1 (C1_keep h) (fun u hu => ?_)
  refine pk_b1 V_putF (fun u2 h2 => ?_)
  refine pk_b1 (W_X2_write (M := 48) (z := u2) (sub_and (by decide)) (by decide) (by decide) KB_rfl) (fun u3 h3 => ?_)
  have r : ∀ j, j ≠ 3 → (j < 4 ∨ 5 < j) → j < 88 → u3.1 j = u.1 j := fun j h1 h4 h5 => by
    rw [h3 j ?_, h2 j (by omega)]
    have : ∀ j, j < 88 → (j < 4 ∨ 5 < j) → Nat.testBit 48 j = false := by decide
    exact this j h5 h4
  exact pk_some (C1_same hu.1 (r 2 (by omega) (by omega) (by omega)) (r 14 (by omega) (by omega) (by omega)) (r 16 (by omega) (by omega) (by omega)) (fun j _ _ => r j (by omega) (by omega) (by omega)) (fun j _ _ => r j (by omega) (by omega) (by omega)))
theorem C1_looks {a1 a2 a3 : Int32} {s : mG} (h : C1 s) : pk (F_X11_looks a1 a2 a3 s) (fun τ => C1 τ.2) := by
  have no : pk (F_X11_looks_31 s) (fun τ => C1 τ.2) := pk_some h
  unfold F_X11_looks
  refine pk_b1 pk_top (fun _ _ => pk_ite no ?_)
  refine pk_b1 pk_top (fun _ _ => pk_ite no ?_)
  refine pk_b1 pk_top (fun _ _ => pk_ite no ?_)
  refine pk_b1 pk_top (fun _ _ => pk_ite (pk_some h) ?_)
  refine pk_b1 (C1_keep h) (fun u hu => ?_)
  refine pk_b1 V_putF (fun u3 h2 => ?_)
  have r : ∀ j, j ≠ 3 → u3.1 j = u.1 j := fun j h1 => h2 j h1
  exact pk_some (C1_same hu.1 (r 2 (by omega)) (r 14 (by omega)) (r 16 (by omega)) (fun j _ _ => r j (by omega)) (fun j _ _ => r j (by omega)))
theorem C1_hours {a1 : Int32} {s : mG} (h : C1 s) : pk (F_X11_hours a1 s) (fun τ => C1 τ.2) := by
  have no : pk (F_X11_hours_25 s) (fun τ => C1 τ.2) := pk_some h
  unfold F_X11_hours
  refine pk_b1 pk_top (fun _ _ => pk_ite no (pk_ite ?_ no))
  unfold F_X11_hours_L31
  refine pk_whl (fun v => C1 v.2.2.2) h (fun v hv => ?_)
  obtain ⟨x1, x2, x3, u⟩ := v
  have hv : C1 u := hv
  unfold F_X11_hours_B31
  refine pk_ite (pk_some hv) ?_
  refine pk_b1 (C1_keep hv) (fun u2 h2 => ?_)
  refine pk_b2 (W_X6_passHour (M := 6493253913945762168890) (z := u2) sub_rfl KB_rfl) (fun _ u3 h3 => ?_)
  have h3 : KB 6493253913945762168890 u2 u3 := h3
  have r2 := h3 2 (by decide +kernel)
  have r14 := h3 14 (by decide +kernel)
  have r16 := h3 16 (by decide +kernel)
  have rk := KB_rng h3 (a := 19) (n := 36) (by decide +kernel)
  exact pk_some (show C1 u3 from C1_same h2.1 r2 r14 r16 (fun j h1 _ => rk j h1 (by omega)) (fun j _ _ => rk j (by omega) (by omega)))
theorem C1_feed {a1 a2 a3 a4 a5 : Int32} {s : mG} (h : C1 s) : pk (F_X11_feed a1 a2 a3 a4 a5 s) (fun τ => C1 τ.2) := fun τ hτ => by
  have q := W_X11_feed (M := 18482772870728515584) (z := s) sub_rfl KB_rfl τ hτ
  have r := KB_rng q (a := 0) (n := 55) (by decide +kernel)
  exact C1_same h (r 2 (by decide) (by decide)) (r 14 (by decide) (by decide)) (r 16 (by decide) (by decide)) (fun j _ h2 => r j (by omega) (by omega)) (fun j _ h2 => r j (by omega) (by omega))
theorem C1_end {a1 : Int32} {s : mG} (h : C1 s) : pk (F_X11_end a1 s) (fun τ => C1 τ.2) := fun τ hτ => by
  have q := W_X11_end (M := 36028797018963968) (z := s) sub_rfl KB_rfl τ hτ
  have r := KB_rng q (a := 0) (n := 55) (by decide +kernel)
  exact C1_same h (r 2 (by decide) (by decide)) (r 14 (by decide) (by decide)) (r 16 (by decide) (by decide)) (fun j _ h2 => r j (by omega) (by omega)) (fun j _ h2 => r j (by omega) (by omega))
theorem C1_text {a1 : Int32} {s : mG} (h : C1 s) : pk (F_X11_text a1 s) (fun τ => C1 τ.2) := by
  unfold F_X11_text
  refine pk_b2 (W_X7_readText (M := 276665132308624310272) (z := s) sub_rfl KB_rfl) (fun v3 u hu => ?_)
  have hu : KB 276665132308624310272 s u := hu
  have r0 := KB_rng hu (a := 0) (n := 55) (by decide +kernel)
  extract_lets s4
  have r4 : ∀ j, j < 55 → s4.1 j = s.1 j := fun j hj => (mu_row (by omega)).trans (r0 j (by omega) (by omega))
  have c4 : C1 s4 := C1_same h (r4 2 (by decide)) (r4 14 (by decide)) (r4 16 (by decide)) (fun j _ h2 => r4 j (by omega)) (fun j _ h2 => r4 j (by omega))
  clear_value s4
  refine pk_ite (pk_some c4) (pk_ite ?_ ?_)
  · refine pk_b1 V_copyF (fun u2 h2 => pk_b1 V_copyF (fun u3 h3 => pk_some ?_))
    have r : ∀ j, j ≠ 6 → j ≠ 7 → j ≠ 8 → j ≠ 9 → u3.1 j = s4.1 j := fun j a b c d => (h3 j c d).trans (h2 j a b)
    exact C1_same c4 (r 2 (by decide) (by decide) (by decide) (by decide)) (r 14 (by decide) (by decide) (by decide) (by decide)) (r 16 (by decide) (by decide) (by decide) (by decide)) (fun j _ _ => r j (by omega) (by omega) (by omega) (by omega)) (fun j _ _ => r j (by omega) (by omega) (by omega) (by omega))
  · unfold F_X5_forget
    dsimp only
    rw [b1_some]
    have fin : ∀ u2 : mG, (∀ j, j ≠ 3 → (j < 10 ∨ 13 < j) → u2.1 j = (mu s4.1 35 1 (ci 0), s4.2).1 j) → C1 u2 := by
      intro u2 k
      have r : ∀ j, j ≠ 3 → (j < 10 ∨ 13 < j) → j ≠ 35 → u2.1 j = s4.1 j := fun j a b c => (k j a b).trans (mu_row c)
      exact C1_forget c4 (TS_row c4.1.1 (r 2 (by omega) (by omega) (by omega))) (r 14 (by omega) (by omega) (by omega)) (r 16 (by omega) (by omega) (by omega)) (fun j _ _ => r j (by omega) (by omega) (by omega)) (fun j _ _ => r j (by omega) (by omega) (by omega)) ((congrFun (k 35 (by omega) (by omega)) 1).trans mu_sameP) ((congrFun (k 35 (by omega) (by omega)) 2).trans (show mu s4.1 35 1 (ci 0) 35 2 = s4.1 35 2 from mu_cell (by omega)))
    refine pk_ite ?_ ?_
    · refine pk_b1 V_copyF (fun u2 h2 => pk_b1 (W_X2_forgetSeen (M := 8) (z := u2) (sub_and (by decide)) (by decide) KB_rfl) (fun u3 h3 => pk_some (fin u3 (fun j a b => ?_))))
      rw [h3 j ?_, h2 j (by omega) (by omega)]
      rw [show (8 : Nat) = 2 ^ 3 by rfl, Nat.testBit_two_pow]
      exact decide_eq_false (by omega)
    · exact pk_b1 V_copyF (fun u2 h2 => pk_some (fin u2 (fun j a b => h2 j (by omega) (by omega))))
theorem C1_undo {s : mG} (h : C1 s) : pk (F_X11_undo s) (fun τ => C1 τ.2 ∧ τ.2.1 2 3 = s.1 2 3 ∧ ∀ i, 4 < i → i ≠ 35 → τ.2.1 i = s.1 i) := by
  unfold F_X11_undo
  refine pk_b2 (C1_giveBack h) (fun v u hu => pk_pp (pk_some ⟨hu.1, hu.2.1 3, hu.2.2⟩))
/-! guest -/
theorem V_fsoF {hh : Nat} {a1 : Int32} {s : mG} : pk (F_X2_forgetSeenOf hh a1 s) (fun s' => ∀ i, i ≠ hh + 2 → s'.1 i = s.1 i) := by
  unfold F_X2_forgetSeenOf F_X2_forgetSeenOf_L2
  refine pk_whl (fun v => ∀ i, i ≠ hh + 2 → v.2.2.1 i = s.1 i) (fun _ _ => rfl) (fun v hv => ?_)
  obtain ⟨x1, x2, u⟩ := v
  have hv : ∀ i, i ≠ hh + 2 → u.1 i = s.1 i := hv
  unfold F_X2_forgetSeenOf_B2
  refine pk_ite (pk_some hv) (pk_b1 V_putF (fun u2 h2 => pk_some (show ∀ i, i ≠ hh + 2 → u2.1 i = s.1 i from fun i hi => (h2 i hi).trans (hv i hi))))
theorem V_guest {a1 a2 : Int32} {s : mG} (h : C1 s) : pk (F_X11_guest a1 a2 s) (fun τ => τ.1 = gdr a1 a2 (s.1 2 3) ∧ τ.2.1 2 3 = gdl a1 a2 (s.1 2 3) ∧ C1 τ.2 ∧ ∀ j, j ≠ 2 → j ≠ 3 → j ≠ 35 → τ.2.1 j = s.1 j) := by
  obtain ⟨w0, w1, n, hn, h3⟩ := h.1.1
  have no : (wi a1 (ci 0) (ci 3) = 0 ∨ wi a2 (ci 0) (c8 99) = 0 ∨ s.1 2 3 = c8 12) → pk (F_X11_guest_32 s) (fun τ => τ.1 = gdr a1 a2 (s.1 2 3) ∧ τ.2.1 2 3 = gdl a1 a2 (s.1 2 3) ∧ C1 τ.2 ∧ ∀ j, j ≠ 2 → j ≠ 3 → j ≠ 35 → τ.2.1 j = s.1 j) := fun k => pk_some ⟨by unfold gdr; rw [if_pos k], by unfold gdl; rw [if_pos k], h, fun _ _ _ _ => rfl⟩
  unfold F_X11_guest
  rw [V_within, b1_some]
  by_cases k1 : wi a1 (ci 0) (ci 3) = 0
  · rw [if_pos k1]; exact no (Or.inl k1)
  rw [if_neg k1, V_within, b1_some]
  by_cases k2 : wi a2 (ci 0) (c8 99) = 0
  · rw [if_pos k2]; exact no (Or.inr (Or.inl k2))
  rw [if_neg k2, V_full w0 h3 (by omega) (by decide), b1_some]
  by_cases k3 : n < 12
  · have kn : ¬ (wi a1 (ci 0) (ci 3) = 0 ∨ wi a2 (ci 0) (c8 99) = 0 ∨ s.1 2 3 = c8 12) := fun q => q.elim k1 (fun q => q.elim k2 (fun q => by
      rw [h3, show c8 12 = cn 12 by decide, cn_inj (by omega) (by decide)] at q
      omega))
    rw [if_pos k3, if_pos (by decide)]
    unfold F_X5_forget F_X2_addGuest
    dsimp only
    rw [b1_some]
    have v0 : (mu s.1 35 1 (ci 0), s.2).1 (1 + 1) 0 = cn 12 := (show mu s.1 35 1 (ci 0) 2 0 = s.1 2 0 from mu_cell (by omega)).trans w0
    have v3 : (mu s.1 35 1 (ci 0), s.2).1 (1 + 1) 3 = cn n := (show mu s.1 35 1 (ci 0) 2 3 = s.1 2 3 from mu_cell (by omega)).trans h3
    rw [V_add v0 v3 (by decide) k3, b2_some]
    have fin : pk (b1 (F_X10_put (1 + 1) (cn n) (ci 0) a1 (mu (mu s.1 35 1 (ci 0)) (1 + 1) 3 (cn (n + 1)), s.2)) fun s5 => b1 (F_X10_put (1 + 1) (cn n) (ci 1) a2 s5) fun s7 => b1 (F_X10_put (1 + 1) (cn n) (ci 2) (ci 0) s7) fun s9 => b1 (F_X10_put (1 + 1) (cn n) (ci 3) (ci (-1)) s9) fun s11 => b1 (F_X10_put (1 + 1) (cn n) (ci 4) (ci 0) s11) fun s13 => b1 (F_X2_forgetSeenOf 1 (cn n) s13) fun s15 => some (cn n, s15)) (fun τ => τ.1 = cn n ∧ ∀ j, j ≠ 3 → τ.2.1 j = mu (mu s.1 35 1 (ci 0)) 2 3 (cn (n + 1)) j) := by
      refine pk_b1 V_putF (fun u1 h1 => pk_b1 V_putF (fun u2 h2 => pk_b1 V_putF (fun u3 h3 => pk_b1 V_putF (fun u4 h4 => pk_b1 V_putF (fun u5 h5 => pk_b1 V_fsoF (fun u6 h6 => pk_some ⟨rfl, fun j hj => ?_⟩))))))
      show u6.1 j = _
      rw [h6 j hj, h5 j hj, h4 j hj, h3 j hj, h2 j hj, h1 j hj]
    refine pk_b2 fin (fun v u q => pk_some ?_)
    obtain ⟨q1, q2⟩ := q
    have q1 : v = cn n := q1
    have q2 : ∀ j, j ≠ 3 → u.1 j = mu (mu s.1 35 1 (ci 0)) 2 3 (cn (n + 1)) j := q2
    have r : ∀ j, j ≠ 2 → j ≠ 3 → j ≠ 35 → u.1 j = s.1 j := fun j a b c => by rw [q2 j b, mu_row a, mu_row c]
    refine ⟨?_, ?_, C1_forget h ⟨?_, ?_, n + 1, by omega, ?_⟩ (r 14 (by decide) (by decide) (by decide)) (r 16 (by decide) (by decide) (by decide)) (fun j _ _ => r j (by omega) (by omega) (by omega)) (fun j _ _ => r j (by omega) (by omega) (by omega)) ?_ ?_, r⟩
    · unfold gdr; rw [if_neg kn]; exact q1.trans h3.symm
    · unfold gdl; rw [if_neg kn]
      show u.1 2 3 = _
      rw [q2 2 (by decide), mu_same, h3, cnu (by omega)]
    · rw [q2 2 (by decide), mu_cell (by omega), mu_cell (by omega)]; exact w0
    · rw [q2 2 (by decide), mu_cell (by omega), mu_cell (by omega)]; exact w1
    · rw [q2 2 (by decide), mu_same]
    · rw [q2 35 (by decide), mu_cell (by omega), mu_same]
    · rw [q2 35 (by decide), mu_cell (by omega), mu_cell (by omega)]
  · rw [if_neg k3, if_neg (by decide)]
    refine no (Or.inr (Or.inr ?_))
    rw [h3, show n = 12 by omega]; decide
theorem P_guest {a1 a2 : Int32} {s : mG} (h : JL s) : ok (F_X11_guest a1 a2 s) (fun τ => ok (F_X12_guest a1 a2 τ.2) (fun υ => JL υ.2 ∧ τ.1 = υ.1)) := by
  refine ok_k (T_X11_guest h.1) (V_guest h.2.2.1) (fun τ q k => ?_)
  obtain ⟨k1, k2, k3, k4⟩ := k
  have qm : IM τ.2 := IM_rows q.2.1 h.2.1
  refine ok_kk (T_X12_guest qm) (K_X12_guest kv0) (W_X12_guest (M := 928455029464035206174343168) (z := τ.2) sub_rfl KB_rfl) (fun υ p e4 w => ?_)
  have e4 : υ.2.1 88 4 = τ.2.1 88 4 := e4
  have e90 : υ.2.1 90 = τ.2.1 90 := w 90 (by decide +kernel)
  obtain ⟨p1, p2, p3, p4⟩ := p
  have r88 : τ.2.1 88 = s.1 88 := q.2.1 88 (by decide)
  have r89 : τ.2.1 89 = s.1 89 := q.2.1 89 (by decide)
  have r90 : τ.2.1 90 = s.1 90 := q.2.1 90 (by decide)
  have hR := h.2.2.2
  unfold R1 R1h at hR
  obtain ⟨⟨z1, z2, z3⟩, z4, z5, z6⟩ := hR
  refine ⟨⟨IC_rows p1.2.1 q.1, p1.1, C1_rows p1.2.1 k3, ?_⟩, ?_⟩
  · unfold R1 R1h
    rw [p1.2.1 2 (by decide), p1.2.1 14 (by decide), p1.2.1 16 (by decide), p1.2.1 0 (by decide), p1.2.1 19 (by decide), p1.2.1 31 (by decide), p1.2.1 33 (by decide), e4, e90, p3, p4 118 (by unfold SK; omega) (by omega), p4 1049 (by unfold SK; omega) (by omega), k2, k4 14 (by omega) (by omega) (by omega), k4 16 (by omega) (by omega) (by omega), k4 0 (by omega) (by omega) (by omega), k4 19 (by omega) (by omega) (by omega), k4 31 (by omega) (by omega) (by omega), k4 33 (by omega) (by omega) (by omega), r88, r89, r90]
    exact ⟨⟨by rw [z1], z2, z3⟩, z4, z5, z6⟩
  · rw [k1, p2, r89, z1]
end
