noncomputable section
/-! CALLERS AND ROOMS -/
theorem V_caller {a1 a2 a3 : Int32} {s : mG} (h : C1 s) : pk (F_X11_caller a1 a2 a3 s) (fun τ => τ.1 = car a1 a2 a3 (s.1 2 3) (s.1 16 3) ∧ τ.2.1 16 3 = cal a1 a2 a3 (s.1 2 3) (s.1 16 3) ∧ C1 τ.2 ∧ ∀ j, j ≠ 16 → j ≠ 17 → τ.2.1 j = s.1 j) := by
  obtain ⟨w0, w1, n, hn, h3⟩ := h.1.2.2
  have cs : ∀ (u : mG) (m : Nat), m ≤ 8 → (∀ j, j ≠ 3 → u.1 16 j = s.1 16 j) → u.1 16 3 = cn m → (∀ j, j ≠ 16 → j ≠ 17 → u.1 j = s.1 j) → C1 u := by
    intro u m hm u1 u2 u3
    obtain ⟨⟨a1, a2, a3⟩, ⟨b1, b2, b3⟩, cc, ⟨c, t, hc, ht, p1, p2, p3⟩⟩ := h
    refine ⟨⟨TS_row a1 (u3 2 (by omega) (by omega)), TS_row a2 (u3 14 (by omega) (by omega)), TS_cells a3 u1 hm u2⟩, ⟨TS_row b1 (u3 19 (by omega) (by omega)), TS_row b2 (u3 31 (by omega) (by omega)), TS_row b3 (u3 33 (by omega) (by omega))⟩, fun i hi => TS_row (cc i hi) (u3 _ (by omega) (by omega)), c, t, hc, ht, ?_, ?_, fun i hi hl => ?_⟩
    · rw [u3 35 (by omega) (by omega)]; exact p1
    · rw [u3 35 (by omega) (by omega)]; exact p2
    · rw [u3 _ (by omega) (by omega), u3 2 (by omega) (by omega)]; exact p3 i hi hl
  unfold F_X11_caller F_X11_caller_63
  by_cases c0 : a1 = ci (-1)
  · rw [if_pos c0]
    unfold F_X10_clear
    dsimp only
    rw [b1_some]
    exact pk_some ⟨by unfold car; rw [if_pos c0], by show mu s.1 16 3 (ci 0) 16 3 = _; rw [mu_same]; unfold cal; rw [if_pos c0], cs (mu s.1 16 3 (ci 0), s.2) 0 (by omega) (fun j hj => mu_cellP (Or.inr hj)) (by show mu s.1 16 3 (ci 0) 16 3 = _; rw [mu_same]; rfl) (fun j h1 _ => mu_rowP h1), fun j h1 _ => mu_rowP h1⟩
  rw [if_neg c0]
  have no : (ig a1 (s.1 2 3) = 0 ∨ wi a2 (ci 0) (c16 999) = 0 ∨ wi a3 (ci 0) (c16 999) = 0 ∨ s.1 16 3 = c8 8) → pk (some ((ci (-1)), s)) (fun τ => τ.1 = car a1 a2 a3 (s.1 2 3) (s.1 16 3) ∧ τ.2.1 16 3 = cal a1 a2 a3 (s.1 2 3) (s.1 16 3) ∧ C1 τ.2 ∧ ∀ j, j ≠ 16 → j ≠ 17 → τ.2.1 j = s.1 j) := fun k => pk_some ⟨by unfold car; rw [if_neg c0, if_pos k], by unfold cal; rw [if_neg c0, if_pos k], h, fun _ _ _ => rfl⟩
  rw [V_isGuest, b1_some]
  by_cases k0 : ig a1 (s.1 (1 + 1) 3) = 0
  · rw [if_pos k0]; exact no (Or.inl k0)
  rw [if_neg k0, V_within, b1_some]
  by_cases k1 : wi a2 (ci 0) (c16 999) = 0
  · rw [if_pos k1]; exact no (Or.inr (Or.inl k1))
  rw [if_neg k1, V_within, b1_some]
  by_cases k2 : wi a3 (ci 0) (c16 999) = 0
  · rw [if_pos k2]; exact no (Or.inr (Or.inr (Or.inl k2)))
  rw [if_neg k2, V_full w0 h3 (by omega) (by decide), b1_some]
  by_cases kf : n < 8
  · have hk : ¬ s.1 16 3 = c8 8 := fun q => by
      rw [h3, show c8 8 = cn 8 by decide, cn_inj (by omega) (by decide)] at q
      omega
    have kn : ¬ (ig a1 (s.1 2 3) = 0 ∨ wi a2 (ci 0) (c16 999) = 0 ∨ wi a3 (ci 0) (c16 999) = 0 ∨ s.1 16 3 = c8 8) := (fun q => q.elim k0 (fun q => q.elim k1 (fun q => q.elim k2 (fun q => absurd q hk))))
    rw [if_pos kf, if_pos (by decide), V_add w0 h3 (by decide) kf, b2_some]
    refine pk_b1 V_putF (fun u0 g0 => pk_b1 V_putF (fun u1 g1 => pk_b1 V_putF (fun u2 g2 => pk_some ?_)))
    have r : ∀ j, j ≠ 17 → u2.1 j = mu s.1 16 3 (cn (n + 1)) j := fun j hj => by rw [g2 j hj, g1 j hj, g0 j hj]
    have e3 : u2.1 16 3 = cn (n + 1) := by rw [r 16 (by decide), mu_same]
    have r2 : ∀ j, j ≠ 16 → j ≠ 17 → u2.1 j = s.1 j := fun j a b => by rw [r j b, mu_row a]
    refine ⟨?_, ?_, cs _ (n + 1) (by omega) (fun j hj => by rw [r 16 (by decide), mu_cell (Or.inr hj)]) e3 r2, r2⟩
    · unfold car; rw [if_neg c0, if_neg kn, h3, cnu (by omega)]; exact e3
    · unfold cal; rw [if_neg c0, if_neg kn, h3, cnu (by omega)]; exact e3
  · rw [if_neg kf, if_neg (by decide)]
    refine no (Or.inr (Or.inr (Or.inr (?_))))
    rw [h3, show n = 8 by omega]; decide
theorem P_caller {a1 a2 a3 : Int32} {s : mG} (h : JL s) : ok (F_X11_caller a1 a2 a3 s) (fun τ => ok (F_X12_caller a1 a2 a3 τ.2) (fun υ => JL υ.2 ∧ τ.1 = υ.1)) := by
  refine ok_k (T_X11_caller h.1) (V_caller h.2.2.1) (fun τ q k => ?_)
  obtain ⟨k1, k2, k3, k4⟩ := k
  have qm : IM τ.2 := IM_rows q.2.1 h.2.1
  refine ok_kk (T_X12_caller qm) (K_X12_caller kv0) (W_X12_caller (M := 618970019642690137449562112) (z := τ.2) sub_rfl KB_rfl) (fun υ p e4 w => ?_)
  have e4 : υ.2.1 88 4 = τ.2.1 88 4 := e4
  have e90 : υ.2.1 90 = τ.2.1 90 := w 90 (by decide +kernel)
  obtain ⟨p1, p2, p3, p4⟩ := p
  have r88 : τ.2.1 88 = s.1 88 := q.2.1 88 (by decide)
  have r89 : τ.2.1 89 = s.1 89 := q.2.1 89 (by decide)
  have r90 : τ.2.1 90 = s.1 90 := q.2.1 90 (by decide)
  have hR := h.2.2.2
  unfold R1 R1h at hR
  obtain ⟨⟨z1, z2, z3⟩, z4, z5, z6⟩ := hR
  refine ⟨⟨IC_rows p1.2.1 q.1, p1.1, C1_rows p1.2.1 k3, ?_⟩, ?_⟩
  · unfold R1 R1h
    rw [p1.2.1 2 (by decide), p1.2.1 14 (by decide), p1.2.1 16 (by decide), p1.2.1 0 (by decide), p1.2.1 19 (by decide), p1.2.1 31 (by decide), p1.2.1 33 (by decide), e4, e90, p3, p4 112 (by unfold SK; omega) (by omega) (by omega), p4 118 (by unfold SK; omega) (by omega) (by omega), k2, k4 2 (by omega) (by omega), k4 14 (by omega) (by omega), k4 0 (by omega) (by omega), k4 19 (by omega) (by omega), k4 31 (by omega) (by omega), k4 33 (by omega) (by omega), r88, r89, r90]
    exact ⟨⟨z1, z2, by rw [z1, z3]⟩, z4, z5, z6⟩
  · rw [k1, p2, r89, z1, z3]
theorem V_room {a1 a2 a3 a4 : Int32} {s : mG} (h : C1 s) : pk (F_X11_room a1 a2 a3 a4 s) (fun τ => τ.1 = ror a1 a2 a3 a4 (s.1 2 3) (s.1 14 3) ∧ τ.2.1 14 3 = rol a1 a2 a3 a4 (s.1 2 3) (s.1 14 3) ∧ C1 τ.2 ∧ ∀ j, j ≠ 14 → j ≠ 15 → τ.2.1 j = s.1 j) := by
  obtain ⟨w0, w1, n, hn, h3⟩ := h.1.2.1
  have cs : ∀ (u : mG) (m : Nat), m ≤ 8 → (∀ j, j ≠ 3 → u.1 14 j = s.1 14 j) → u.1 14 3 = cn m → (∀ j, j ≠ 14 → j ≠ 15 → u.1 j = s.1 j) → C1 u := by
    intro u m hm u1 u2 u3
    obtain ⟨⟨a1, a2, a3⟩, ⟨b1, b2, b3⟩, cc, ⟨c, t, hc, ht, p1, p2, p3⟩⟩ := h
    refine ⟨⟨TS_row a1 (u3 2 (by omega) (by omega)), TS_cells a2 u1 hm u2, TS_row a3 (u3 16 (by omega) (by omega))⟩, ⟨TS_row b1 (u3 19 (by omega) (by omega)), TS_row b2 (u3 31 (by omega) (by omega)), TS_row b3 (u3 33 (by omega) (by omega))⟩, fun i hi => TS_row (cc i hi) (u3 _ (by omega) (by omega)), c, t, hc, ht, ?_, ?_, fun i hi hl => ?_⟩
    · rw [u3 35 (by omega) (by omega)]; exact p1
    · rw [u3 35 (by omega) (by omega)]; exact p2
    · rw [u3 _ (by omega) (by omega), u3 2 (by omega) (by omega)]; exact p3 i hi hl
  unfold F_X11_room F_X11_room_73
  by_cases c0 : a1 = ci (-1)
  · rw [if_pos c0]
    unfold F_X10_clear
    dsimp only
    rw [b1_some]
    exact pk_some ⟨by unfold ror; rw [if_pos c0], by show mu s.1 14 3 (ci 0) 14 3 = _; rw [mu_same]; unfold rol; rw [if_pos c0], cs (mu s.1 14 3 (ci 0), s.2) 0 (by omega) (fun j hj => mu_cellP (Or.inr hj)) (by show mu s.1 14 3 (ci 0) 14 3 = _; rw [mu_same]; rfl) (fun j h1 _ => mu_rowP h1), fun j h1 _ => mu_rowP h1⟩
  rw [if_neg c0]
  have no : (ig a1 (s.1 2 3) = 0 ∨ wi a2 (ci 1) (c8 99) = 0 ∨ wi a3 (ci 1) (c16 999) = 0 ∨ wi a4 (ci 0) (c8 99) = 0 ∨ s.1 14 3 = c8 8) → pk (some ((ci (-1)), s)) (fun τ => τ.1 = ror a1 a2 a3 a4 (s.1 2 3) (s.1 14 3) ∧ τ.2.1 14 3 = rol a1 a2 a3 a4 (s.1 2 3) (s.1 14 3) ∧ C1 τ.2 ∧ ∀ j, j ≠ 14 → j ≠ 15 → τ.2.1 j = s.1 j) := fun k => pk_some ⟨by unfold ror; rw [if_neg c0, if_pos k], by unfold rol; rw [if_neg c0, if_pos k], h, fun _ _ _ => rfl⟩
  rw [V_isGuest, b1_some]
  by_cases k0 : ig a1 (s.1 (1 + 1) 3) = 0
  · rw [if_pos k0]; exact no (Or.inl k0)
  rw [if_neg k0, V_within, b1_some]
  by_cases k1 : wi a2 (ci 1) (c8 99) = 0
  · rw [if_pos k1]; exact no (Or.inr (Or.inl k1))
  rw [if_neg k1, V_within, b1_some]
  by_cases k2 : wi a3 (ci 1) (c16 999) = 0
  · rw [if_pos k2]; exact no (Or.inr (Or.inr (Or.inl k2)))
  rw [if_neg k2, V_within, b1_some]
  by_cases k3 : wi a4 (ci 0) (c8 99) = 0
  · rw [if_pos k3]; exact no (Or.inr (Or.inr (Or.inr (Or.inl k3))))
  rw [if_neg k3, V_full w0 h3 (by omega) (by decide), b1_some]
  by_cases kf : n < 8
  · have hk : ¬ s.1 14 3 = c8 8 := fun q => by
      rw [h3, show c8 8 = cn 8 by decide, cn_inj (by omega) (by decide)] at q
      omega
    have kn : ¬ (ig a1 (s.1 2 3) = 0 ∨ wi a2 (ci 1) (c8 99) = 0 ∨ wi a3 (ci 1) (c16 999) = 0 ∨ wi a4 (ci 0) (c8 99) = 0 ∨ s.1 14 3 = c8 8) := (fun q => q.elim k0 (fun q => q.elim k1 (fun q => q.elim k2 (fun q => q.elim k3 (fun q => absurd q hk)))))
    rw [if_pos kf, if_pos (by decide), V_add w0 h3 (by decide) kf, b2_some]
    refine pk_b1 V_putF (fun u0 g0 => pk_b1 V_putF (fun u1 g1 => pk_b1 V_putF (fun u2 g2 => pk_b1 V_putF (fun u3 g3 => pk_some ?_))))
    have r : ∀ j, j ≠ 15 → u3.1 j = mu s.1 14 3 (cn (n + 1)) j := fun j hj => by rw [g3 j hj, g2 j hj, g1 j hj, g0 j hj]
    have e3 : u3.1 14 3 = cn (n + 1) := by rw [r 14 (by decide), mu_same]
    have r2 : ∀ j, j ≠ 14 → j ≠ 15 → u3.1 j = s.1 j := fun j a b => by rw [r j b, mu_row a]
    refine ⟨?_, ?_, cs _ (n + 1) (by omega) (fun j hj => by rw [r 14 (by decide), mu_cell (Or.inr hj)]) e3 r2, r2⟩
    · unfold ror; rw [if_neg c0, if_neg kn, h3, cnu (by omega)]; exact e3
    · unfold rol; rw [if_neg c0, if_neg kn, h3, cnu (by omega)]; exact e3
  · rw [if_neg kf, if_neg (by decide)]
    refine no (Or.inr (Or.inr (Or.inr (Or.inr (?_)))))
    rw [h3, show n = 8 by omega]; decide
theorem P_room {a1 a2 a3 a4 : Int32} {s : mG} (h : JL s) : ok (F_X11_room a1 a2 a3 a4 s) (fun τ => ok (F_X12_room a1 a2 a3 a4 τ.2) (fun υ => JL υ.2 ∧ τ.1 = υ.1)) := by
  refine ok_k (T_X11_room h.1) (V_room h.2.2.1) (fun τ q k => ?_)
  obtain ⟨k1, k2, k3, k4⟩ := k
  have qm : IM τ.2 := IM_rows q.2.1 h.2.1
  refine ok_kk (T_X12_room qm) (K_X12_room kv0) (W_X12_room (M := 618970019642690137449562112) (z := τ.2) sub_rfl KB_rfl) (fun υ p e4 w => ?_)
  have e4 : υ.2.1 88 4 = τ.2.1 88 4 := e4
  have e90 : υ.2.1 90 = τ.2.1 90 := w 90 (by decide +kernel)
  obtain ⟨p1, p2, p3, p4⟩ := p
  have r88 : τ.2.1 88 = s.1 88 := q.2.1 88 (by decide)
  have r89 : τ.2.1 89 = s.1 89 := q.2.1 89 (by decide)
  have r90 : τ.2.1 90 = s.1 90 := q.2.1 90 (by decide)
  have hR := h.2.2.2
  unfold R1 R1h at hR
  obtain ⟨⟨z1, z2, z3⟩, z4, z5, z6⟩ := hR
  refine ⟨⟨IC_rows p1.2.1 q.1, p1.1, C1_rows p1.2.1 k3, ?_⟩, ?_⟩
  · unfold R1 R1h
    rw [p1.2.1 2 (by decide), p1.2.1 14 (by decide), p1.2.1 16 (by decide), p1.2.1 0 (by decide), p1.2.1 19 (by decide), p1.2.1 31 (by decide), p1.2.1 33 (by decide), e4, e90, p3, p4 112 (by unfold SK; omega) (by omega) (by omega), p4 1049 (by unfold SK; omega) (by omega) (by omega), k2, k4 2 (by omega) (by omega), k4 16 (by omega) (by omega), k4 0 (by omega) (by omega), k4 19 (by omega) (by omega), k4 31 (by omega) (by omega), k4 33 (by omega) (by omega), r88, r89, r90]
    exact ⟨⟨z1, by rw [z1, z2], z3⟩, z4, z5, z6⟩
  · rw [k1, p2, r89, z1, z2]
/-! the image -/
theorem V_X11_give {s : mG} (h : C1 s) : pk (b1 (F_X2_copyFrom 1 18 s) fun s4 => b1 (F_X5_forget s4) fun s6 => some ((ci 1), s6)) (fun τ => τ.1 = ci 1 ∧ C1 τ.2 ∧ τ.2.1 0 = s.1 0 ∧ τ.2.1 2 3 = s.1 19 3 ∧ τ.2.1 14 3 = s.1 31 3 ∧ τ.2.1 16 3 = s.1 33 3 ∧ ∀ j, 19 ≤ j → j ≤ 33 → τ.2.1 j = s.1 j) := by
  have h0 := h
  obtain ⟨⟨a1, a2, a3⟩, ⟨⟨_, _, n1, b1, b1'⟩, ⟨_, _, n2, b2, b2'⟩, ⟨_, _, n3, b3, b3'⟩⟩, cc, ⟨c, t, hc, ht, p1, p2, p3⟩⟩ := h
  refine pk_b1 (V_house (h := 1) (a := 18) (ng := n1) (nr := n2) (nc := n3) (by omega) ⟨by decide +kernel, by decide +kernel⟩ ⟨by decide +kernel, by decide +kernel⟩ ⟨by decide +kernel, by decide +kernel⟩ a1 a2 a3 b1' b2' b3' b1 b2 b3) (fun u hu => ?_)
  obtain ⟨q1, q2, q3, q4, q5, q6, q7, q8⟩ := hu
  unfold F_X5_forget
  dsimp only
  rw [b1_some]
  have r : ∀ j, j ≠ 35 → mu u.1 35 1 (ci 0) j = u.1 j := fun j hj => mu_row hj
  have e351 : mu u.1 35 1 (ci 0) 35 1 = ci 0 := mu_same
  have e352 : mu u.1 35 1 (ci 0) 35 2 = s.1 35 2 := (mu_cell (by omega)).trans (congrFun (q1 35 (by omega)) 2)
  generalize mu u.1 35 1 (ci 0) = D at *
  have rr : ∀ j, (j < 1 ∨ 17 < j) → j ≠ 35 → D j = s.1 j := fun j h1 h2 => (r j h2).trans (q1 j (by omega))
  refine pk_some ⟨rfl, ⟨⟨TS_cells a1 (fun j hj => (congrFun (r 2 (by omega)) j).trans (q2 j hj)) b1 ((congrFun (r 2 (by omega)) 3).trans (q3.trans b1')), TS_cells a2 (fun j hj => (congrFun (r 14 (by omega)) j).trans (q4 j hj)) b2 ((congrFun (r 14 (by omega)) 3).trans (q5.trans b2')), TS_cells a3 (fun j hj => (congrFun (r 16 (by omega)) j).trans (q6 j hj)) b3 ((congrFun (r 16 (by omega)) 3).trans (q7.trans b3'))⟩, ⟨TS_row h0.2.1.1 (rr 19 (by omega) (by omega)), TS_row h0.2.1.2.1 (rr 31 (by omega) (by omega)), TS_row h0.2.1.2.2 (rr 33 (by omega) (by omega))⟩, fun i hi => TS_row (cc i hi) (rr _ (by omega) (by omega)), 0, t, by omega, ht, e351.trans rfl, e352.trans p2, fun i hi hl => absurd hl (by omega)⟩, rr 0 (by omega) (by omega), (congrFun (r 2 (by omega)) 3).trans q3, (congrFun (r 14 (by omega)) 3).trans q5, (congrFun (r 16 (by omega)) 3).trans q7, fun j h1 h2 => rr j (by omega) (by omega)⟩
theorem V_X11_take {s : mG} (h : C1 s) : pk (b1 (F_X2_copyFrom 18 1 s) fun s8 => let s9 : mG := (mu s8.1 0 2 (ci 1), s8.2); some ((ci 1), s9)) (fun τ => τ.1 = ci 1 ∧ C1 τ.2 ∧ τ.2.1 0 2 = ci 1 ∧ τ.2.1 19 3 = s.1 2 3 ∧ τ.2.1 31 3 = s.1 14 3 ∧ τ.2.1 33 3 = s.1 16 3 ∧ ∀ j, 1 ≤ j → j ≤ 17 → τ.2.1 j = s.1 j) := by
  have h0 := h
  obtain ⟨⟨⟨_, _, n1, b1, b1'⟩, ⟨_, _, n2, b2, b2'⟩, ⟨_, _, n3, b3, b3'⟩⟩, ⟨a1, a2, a3⟩, cc, ⟨c, t, hc, ht, p1, p2, p3⟩⟩ := h
  refine pk_b1 (V_house (h := 18) (a := 1) (ng := n1) (nr := n2) (nc := n3) (by omega) ⟨by decide +kernel, by decide +kernel⟩ ⟨by decide +kernel, by decide +kernel⟩ ⟨by decide +kernel, by decide +kernel⟩ a1 a2 a3 b1' b2' b3' b1 b2 b3) (fun u hu => ?_)
  obtain ⟨q1, q2, q3, q4, q5, q6, q7, q8⟩ := hu
  dsimp only
  have r : ∀ j, j ≠ 0 → mu u.1 0 2 (ci 1) j = u.1 j := fun j hj => mu_row hj
  have e0 : mu u.1 0 2 (ci 1) 0 2 = ci 1 := mu_same
  generalize mu u.1 0 2 (ci 1) = D at *
  have rr : ∀ j, (j < 18 ∨ 34 < j) → j ≠ 0 → D j = s.1 j := fun j h1 h2 => (r j h2).trans (q1 j (by omega))
  refine pk_some ⟨rfl, ⟨⟨TS_row h0.1.1 (rr 2 (by omega) (by omega)), TS_row h0.1.2.1 (rr 14 (by omega) (by omega)), TS_row h0.1.2.2 (rr 16 (by omega) (by omega))⟩, ⟨TS_cells a1 (fun j hj => (congrFun (r 19 (by omega)) j).trans (q2 j hj)) b1 ((congrFun (r 19 (by omega)) 3).trans (q3.trans b1')), TS_cells a2 (fun j hj => (congrFun (r 31 (by omega)) j).trans (q4 j hj)) b2 ((congrFun (r 31 (by omega)) 3).trans (q5.trans b2')), TS_cells a3 (fun j hj => (congrFun (r 33 (by omega)) j).trans (q6 j hj)) b3 ((congrFun (r 33 (by omega)) 3).trans (q7.trans b3'))⟩, fun i hi => TS_row (cc i hi) (rr _ (by omega) (by omega)), c, t, hc, ht, ?_, ?_, fun i hi hl => ?_⟩, e0, (congrFun (r 19 (by omega)) 3).trans q3, (congrFun (r 31 (by omega)) 3).trans q5, (congrFun (r 33 (by omega)) 3).trans q7, fun j h1 h2 => rr j (by omega) (by omega)⟩
  · exact (congrFun (rr 35 (by omega) (by omega)) 1).trans p1
  · exact (congrFun (rr 35 (by omega) (by omega)) 2).trans p2
  · show D _ 3 = D 2 3
    rw [rr _ (by omega) (by omega), rr 2 (by omega) (by omega)]; exact p3 i hi hl
theorem V_X12_image_67 {s : mG} : F_X12_image_67 s = some (ci 1, (mu s.1 88 4 (ci 1), s.2)) := rfl
theorem c1894 : c16 1894 = cn 1894 := by decide
theorem V_X12_give {s : mG} : pk (F_X12_image_13 (ci 0) s) (fun τ => τ.1 = ci 1 ∧ τ.2.1 88 4 = ci 1 ∧ τ.2.1 90 = s.1 90 ∧ ∀ k, k < 1894 → τ.2.1 89 k = s.1 90 k) := by
  unfold F_X12_image_13 F_X12_image_L15
  refine pk_whl (fun v => v.1 = ci 0 ∧ v.2.2.1 90 = s.1 90 ∧ ∃ k, v.2.1 = cn k ∧ k ≤ 1894 ∧ ∀ j, j < k → v.2.2.1 89 j = s.1 90 j) ⟨rfl, rfl, 0, rfl, by omega, fun j hj => absurd hj (by omega)⟩ (fun v hv => ?_)
  obtain ⟨x1, x2, u⟩ := v
  obtain ⟨g1, g2, k, g3, g4, g5⟩ := hv
  have g1 : x1 = ci 0 := g1
  have g2 : u.1 90 = s.1 90 := g2
  have g3 : x2 = cn k := g3
  have g5 : ∀ j, j < k → u.1 89 j = s.1 90 j := g5
  subst g1; subst g3
  unfold F_X12_image_B15 F_X12_image_53 F_X12_forgets
  rw [c1894]
  by_cases hk : 1894 ≤ k
  · rw [if_pos ((cn_le (by omega) (by omega)).mpr hk), if_pos (show (ci 0 : Int32) = 0 by decide)]
    dsimp only
    rw [b1_some, V_X12_image_67, b1_some]
    refine pk_some (show _ ∧ _ ∧ _ ∧ _ from ⟨rfl, mu_sameP, ?_, fun j hj => ?_⟩)
    · show mu (mu u.1 88 3 (ci 0)) 88 4 (ci 1) 90 = _
      rw [mu_row (by omega), mu_row (by omega)]; exact g2
    · show mu (mu u.1 88 3 (ci 0)) 88 4 (ci 1) 89 j = _
      rw [mu_row (by omega), mu_row (by omega)]; exact g5 j (by omega)
  · rw [if_neg (fun h => hk ((cn_le (by omega) (by omega)).mp h)), if_pos (show (ci 0 : Int32) = 0 by decide), if_neg (cn_ix (by omega) (by omega)), if_neg (cn_ix (by omega) (by omega)), cn_nat (by omega), cnu (by omega)]
    refine pk_some (show _ ∧ _ ∧ _ from ⟨rfl, ?_, k + 1, rfl, by omega, fun j hj => ?_⟩)
    · show mu u.1 89 k (u.1 90 k) 90 = _
      rw [mu_row (by omega)]; exact g2
    · show mu u.1 89 k (u.1 90 k) 89 j = _
      by_cases hjk : j = k
      · subst hjk; rw [mu_same]; exact congrFun g2 j
      · rw [mu_cell (Or.inr hjk)]; exact g5 j (by omega)
theorem V_X12_take {a1 : Int32} {s : mG} (ha : ¬ a1 = 0) : pk (F_X12_image_13 a1 s) (fun τ => τ.1 = ci 1 ∧ τ.2.1 88 4 = ci 1 ∧ τ.2.1 89 = s.1 89 ∧ ∀ k, k < 1894 → τ.2.1 90 k = s.1 89 k) := by
  unfold F_X12_image_13 F_X12_image_L15
  refine pk_whl (fun v => v.1 = a1 ∧ v.2.2.1 89 = s.1 89 ∧ ∃ k, v.2.1 = cn k ∧ k ≤ 1894 ∧ ∀ j, j < k → v.2.2.1 90 j = s.1 89 j) ⟨rfl, rfl, 0, rfl, by omega, fun j hj => absurd hj (by omega)⟩ (fun v hv => ?_)
  obtain ⟨x1, x2, u⟩ := v
  obtain ⟨g1, g2, k, g3, g4, g5⟩ := hv
  have g1 : x1 = a1 := g1
  have g2 : u.1 89 = s.1 89 := g2
  have g3 : x2 = cn k := g3
  have g5 : ∀ j, j < k → u.1 90 j = s.1 89 j := g5
  subst g1; subst g3
  unfold F_X12_image_B15 F_X12_image_53
  rw [c1894]
  by_cases hk : 1894 ≤ k
  · rw [if_pos ((cn_le (by omega) (by omega)).mpr hk), if_neg ha]
    rw [V_X12_image_67, b1_some]
    refine pk_some (show _ ∧ _ ∧ _ ∧ _ from ⟨rfl, mu_sameP, ?_, fun j hj => ?_⟩)
    · show mu u.1 88 4 (ci 1) 89 = _
      rw [mu_row (by omega)]; exact g2
    · show mu u.1 88 4 (ci 1) 90 j = _
      rw [mu_row (by omega)]; exact g5 j (by omega)
  · rw [if_neg (fun h => hk ((cn_le (by omega) (by omega)).mp h)), if_neg ha, if_neg (cn_ix (by omega) (by omega)), if_neg (cn_ix (by omega) (by omega)), cn_nat (by omega), cnu (by omega)]
    refine pk_some (show _ ∧ _ ∧ _ from ⟨rfl, ?_, k + 1, rfl, by omega, fun j hj => ?_⟩)
    · show mu u.1 90 k (u.1 89 k) 89 = _
      rw [mu_row (by omega)]; exact g2
    · show mu u.1 90 k (u.1 89 k) 90 j = _
      by_cases hjk : j = k
      · subst hjk; rw [mu_same]; exact congrFun g2 j
      · rw [mu_cell (Or.inr hjk)]; exact g5 j (by omega)
theorem P_image {a1 : Int32} {s : mG} (ha : a1 = ci 0 ∨ a1 = ci 1) (h : JL s) : ok (F_X11_image a1 s) (fun τ => ok (F_X12_image a1 τ.2) (fun υ => JL υ.2 ∧ τ.1 = υ.1)) := by
  have hR := h.2.2.2
  unfold R1 R1h at hR
  obtain ⟨⟨z1, z2, z3⟩, z4, z5, z6⟩ := hR
  rcases ha with ha | ha
  · subst ha
    by_cases k0 : s.1 0 2 = 0
    · have e11 : F_X11_image (ci 0) s = some (ci 0, s) := by
        unfold F_X11_image
        rw [if_pos (by decide), if_pos k0]
      have e12 : F_X12_image (ci 0) s = some (ci 0, s) := by
        unfold F_X12_image
        rw [if_pos (by decide), if_pos (z5.symm.trans k0)]
      exact ⟨_, e11, _, e12, h, rfl⟩
    · have k4 : ¬ s.1 88 4 = 0 := fun e => k0 (z5.trans e)
      have hv : pk (F_X11_image (ci 0) s) (fun τ => τ.1 = ci 1 ∧ C1 τ.2 ∧ τ.2.1 0 = s.1 0 ∧ τ.2.1 2 3 = s.1 19 3 ∧ τ.2.1 14 3 = s.1 31 3 ∧ τ.2.1 16 3 = s.1 33 3 ∧ ∀ j, 19 ≤ j → j ≤ 33 → τ.2.1 j = s.1 j) := by
        unfold F_X11_image
        rw [if_pos (by decide), if_neg k0]
        exact V_X11_give h.2.2.1
      refine ok_k (T_X11_image h.1) hv (fun τ q k => ?_)
      obtain ⟨k1, k2, k3, k5, k6, k7, k8⟩ := k
      have r88 : τ.2.1 88 = s.1 88 := q.2.2.1 88 (by decide)
      have r89 : τ.2.1 89 = s.1 89 := q.2.2.1 89 (by decide)
      have r90 : τ.2.1 90 = s.1 90 := q.2.2.1 90 (by decide)
      have hv2 : pk (F_X12_image (ci 0) τ.2) (fun υ => υ.1 = ci 1 ∧ υ.2.1 88 4 = ci 1 ∧ υ.2.1 90 = τ.2.1 90 ∧ ∀ k, k < 1894 → υ.2.1 89 k = τ.2.1 90 k) := by
        unfold F_X12_image
        rw [if_pos (by decide), if_neg (by rw [r88]; exact k4)]
        exact V_X12_give
      refine ok_k (T_X12_image (IM_rows q.2.2.1 h.2.1)) hv2 (fun υ p m => ?_)
      obtain ⟨m1, m2, m3, m4⟩ := m
      have p := p.2
      obtain ⟨y1, y2, y3⟩ := z6 k4
      have e41 : s.1 88 4 = ci 1 := z4.resolve_left k4
      refine ⟨⟨IC_rows p.2.1 q.2.1, p.1, C1_rows p.2.1 k2, ?_⟩, k1.trans m1.symm⟩
      unfold R1 R1h
      rw [p.2.1 2 (by decide), p.2.1 14 (by decide), p.2.1 16 (by decide), p.2.1 0 (by decide), p.2.1 19 (by decide), p.2.1 31 (by decide), p.2.1 33 (by decide), m2, m3, m4 112 (by decide), m4 118 (by decide), m4 1049 (by decide), k5, k6, k7, k3, k8 19 (by decide) (by decide), k8 31 (by decide) (by decide), k8 33 (by decide) (by decide), r90]
      exact ⟨⟨y1, y2, y3⟩, pb1, z5.trans e41, fun _ => ⟨y1, y2, y3⟩⟩
  · subst ha
    have n0 : ¬ ci 1 = 0 := by decide
    have hv : pk (F_X11_image (ci 1) s) (fun τ => τ.1 = ci 1 ∧ C1 τ.2 ∧ τ.2.1 0 2 = ci 1 ∧ τ.2.1 19 3 = s.1 2 3 ∧ τ.2.1 31 3 = s.1 14 3 ∧ τ.2.1 33 3 = s.1 16 3 ∧ ∀ j, 1 ≤ j → j ≤ 17 → τ.2.1 j = s.1 j) := by
      unfold F_X11_image
      rw [if_neg n0]
      exact V_X11_take h.2.2.1
    refine ok_k (T_X11_image h.1) hv (fun τ q k => ?_)
    obtain ⟨k1, k2, k3, k5, k6, k7, k8⟩ := k
    have r89 : τ.2.1 89 = s.1 89 := q.2.2.1 89 (by decide)
    have hv2 : pk (F_X12_image (ci 1) τ.2) (fun υ => υ.1 = ci 1 ∧ υ.2.1 88 4 = ci 1 ∧ υ.2.1 89 = τ.2.1 89 ∧ ∀ k, k < 1894 → υ.2.1 90 k = τ.2.1 89 k) := by
      unfold F_X12_image
      rw [if_neg n0]
      exact V_X12_take n0
    refine ok_k (T_X12_image (IM_rows q.2.2.1 h.2.1)) hv2 (fun υ p m => ?_)
    obtain ⟨m1, m2, m3, m4⟩ := m
    have p := p.2
    refine ⟨⟨IC_rows p.2.1 q.2.1, p.1, C1_rows p.2.1 k2, ?_⟩, k1.trans m1.symm⟩
    unfold R1 R1h
    rw [p.2.1 2 (by decide), p.2.1 14 (by decide), p.2.1 16 (by decide), p.2.1 0 (by decide), p.2.1 19 (by decide), p.2.1 31 (by decide), p.2.1 33 (by decide), m2, m3, m4 112 (by decide), m4 118 (by decide), m4 1049 (by decide), k8 2 (by decide) (by decide), k8 14 (by decide) (by decide), k8 16 (by decide) (by decide), k3, k5, k6, k7, r89]
    exact ⟨⟨z1, z2, z3⟩, pb1, rfl, fun _ => ⟨z1, z2, z3⟩⟩
end
