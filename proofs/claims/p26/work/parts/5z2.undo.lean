noncomputable section
/-! THE LAST MOMENT GIVEN BACK on both sides -/
/-- the class's giveBack, cell by cell: l its place, n guests, b and nb the book's rows kept and now -/
def GBo (l c n : Nat) (bk : Nat) (s u : mG) : Prop := (∀ i, i ≠ 1 → i ≠ 2 → i ≠ 3 → i ≠ 4 → i ≠ 35 → u.1 i = s.1 i) ∧ (∀ j, u.1 2 j = s.1 2 j) ∧ (∀ j, j < n * 11 → u.1 3 j = s.1 (37 + 3 * l + 1 + 1) j) ∧ (∀ j, j ≠ 3 → u.1 4 j = s.1 4 j) ∧ u.1 4 3 = cn bk ∧ (∀ j, j ≠ 10 → j ≠ 11 → u.1 1 j = s.1 1 j) ∧ u.1 1 10 = s.1 (37 + 3 * l) 2 ∧ u.1 1 11 = s.1 (37 + 3 * l) 3 ∧ u.1 35 2 = cn l ∧ u.1 35 1 = cn (c - 1)
theorem V_giveBackE {s : mG} {c t n nb bk : Nat} (hc : c ≤ 6) (h0 : 0 < c) (ht : t < 6) (hn : n ≤ 12) (hnb : nb ≤ 150) (hbk : bk ≤ nb) (p1 : s.1 35 1 = cn c) (p2 : s.1 35 2 = cn t) (w0 : s.1 2 0 = cn 12) (w1 : s.1 2 1 = cn 11) (p3 : s.1 2 3 = cn n) (p4 : s.1 4 3 = cn nb) (m1 : s.1 (37 + 3 * ((t + 5) % 6)) 1 = cn bk) (m3 : s.1 (37 + 3 * ((t + 5) % 6) + 1) 3 = cn n) : pk (F_X5_giveBack 1 s) (fun τ => τ.1 = ci 1 ∧ GBo ((t + 5) % 6) c n bk s τ.2) := by
  unfold F_X5_giveBack F_X5_giveBack_30
  dsimp only
  rw [p2, rm_dn t ht, V_moment rfl (Nat.mod_lt _ (by decide)), bo_some, p1]
  have hl : (t + 5) % 6 < 6 := Nat.mod_lt _ (by decide)
  have n0 : ¬ cn c = 0 := fun q => by
    have := (cn_inj (a := c) (b := 0) (by omega) (by omega)).mp (q.trans (show (0 : Int32) = cn 0 by decide))
    omega
  rw [if_neg n0]
  generalize (t + 5) % 6 = l at *
  unfold F_X4_giveTo
  have hcp := V_copy (t := 1 + 1) (a := 37 + 3 * l + 1) (s := s) (n := n) (m := 12) (W := 11) (by omega) w0 m3 w1 hn (by decide) (by rw [show 1 + 1 + 1 = 2 + 1 by rfl, al_3]; omega) (by rw [al_mo l hl]; omega) (by decide)
  rw [b1_b1]
  refine pk_b1 hcp (fun u hu => ?_)
  obtain ⟨_, c2, c3, c4, c5, c6⟩ := hu
  rw [b1_some]
  dsimp only
  have e4 : u.1 (1 + 3) 3 = cn nb := (congrFun (c2 4 (by omega) (by omega)) 3).trans p4
  have em1 : u.1 (37 + 3 * l) 1 = cn bk := (congrFun (c2 (37 + 3 * l) (by omega) (by omega)) 1).trans m1
  have e2 : u.1 (37 + 3 * l) 2 = s.1 (37 + 3 * l) 2 := congrFun (c2 (37 + 3 * l) (by omega) (by omega)) 2
  have e3 : u.1 (37 + 3 * l) 3 = s.1 (37 + 3 * l) 3 := congrFun (c2 (37 + 3 * l) (by omega) (by omega)) 3
  have e35 : u.1 35 1 = cn c := (congrFun (c2 35 (by omega) (by omega)) 1).trans p1
  have emin : imin (cn bk) (cn nb) = cn bk := by rw [imin_cn (by omega) (by omega), Nat.min_eq_left hbk]
  rw [e4, em1, emin, mu_row (j := 37 + 3 * l) (i := 1 + 3) (by omega), e2, mu_row (j := 37 + 3 * l) (i := 1) (by omega), mu_row (j := 37 + 3 * l) (i := 1 + 3) (by omega), e3]
  have k35 : mu (mu (mu (mu u.1 (1 + 3) 3 (cn bk)) 1 10 (s.1 (37 + 3 * l) 2)) 1 11 (s.1 (37 + 3 * l) 3)) 35 2 (cn l) 35 1 - ci 1 = cn (c - 1) := by
    rw [mu_cell (by decide), mu_row (by decide), mu_row (by decide), mu_row (by decide), e35]
    exact cn_sub (a := c) (b := 1) (by omega) (by omega)
  rw [k35]
  refine pk_some ⟨rfl, fun i h1 h2 h3 h4 h5 => ?_, fun j => ?_, fun j hj => ?_, fun j hj => ?_, ?_, fun j h1 h2 => ?_, ?_, ?_, ?_, ?_⟩
  all_goals dsimp only
  · rw [mu_row h5, mu_row h5, mu_row h1, mu_row h1, mu_row (by omega)]; exact c2 i h2 (by omega)
  · rw [mu_row (by decide), mu_row (by decide), mu_row (by decide), mu_row (by decide), mu_row (by decide)]
    by_cases e : j = 3
    · rw [e]; exact c4.trans (m3.trans p3.symm)
    · exact c3 j e
  · rw [mu_row (by decide), mu_row (by decide), mu_row (by decide), mu_row (by decide), mu_row (by decide)]; exact c5 j hj
  · rw [mu_row (by decide), mu_row (by decide), mu_row (by decide), mu_row (by decide), mu_cell (Or.inr hj)]; exact congrFun (c2 4 (by omega) (by omega)) j
  · rw [mu_row (by decide), mu_row (by decide), mu_row (by decide), mu_row (by decide)]; exact mu_same
  · rw [mu_row (by decide), mu_row (by decide), mu_cell (Or.inr h2), mu_cell (Or.inr h1), mu_row (by decide)]; exact congrFun (c2 1 (by omega) (by omega)) j
  · rw [mu_row (by decide), mu_row (by decide), mu_cell (by decide)]; exact mu_same
  · rw [mu_row (by decide), mu_row (by decide)]; exact mu_same
  · rw [mu_cell (by decide)]; exact mu_same
  · exact mu_same
theorem bk_mono {bk : Nat → Nat} {c : Nat} (h : ∀ i, i + 1 < c → bk i ≤ bk (i + 1)) : ∀ j i, i + j < c → bk i ≤ bk (i + j) := by
  intro j
  induction j with
  | zero => intro i _; exact Nat.le_refl _
  | succ j ih =>
    intro i hi
    exact Nat.le_trans (ih i (by omega)) (h (i + j) (by omega))
/-- both give back -/
theorem PSr_undo {s u : mG} {w w88' w91 : Nat → Int32} {c t n nb : Nat} {bk : Nat → Nat} (hH : HSr 1 s.1 w) (hc : c ≤ 6) (h0 : 0 < c) (ht : t < 6) (hn : n ≤ 12) (hnb : nb ≤ 150) (p3 : s.1 2 3 = cn n) (p4 : s.1 4 3 = cn nb) (hb : ∀ i, i < c → bk i ≤ nb ∧ w91 (112 * i + 2) = cn (bk i)) (hb2 : ∀ i, i + 1 < c → bk i ≤ bk (i + 1)) (hm : ∀ i, i < 6 → MSh (37 + 3 * i + 1) s.1) (hP : ∀ i, i < c → MOr ((t + 6 - c + i) % 6) n s.1 (fun k => w91 (112 * i + k)) ∧ VIm n (fun k => w91 (112 * i + k))) (hG : GBo ((t + 5) % 6) c n (bk (c - 1)) s u) (k3 : w88' 3 = cn (c - 1)) : HSr 1 u.1 (ovr 0 112 (fun k => w91 (112 * (c - 1) + k)) w) ∧ PSr u.1 w88' w91 ∧ VIm n (ovr 0 112 (fun k => w91 (112 * (c - 1) + k)) w) := by
  obtain ⟨y1, y2, y3, y4, y5, y6, y7, y8, y9, y10⟩ := hG
  obtain ⟨⟨g0, g1, ng, hng, g3, gc, gx⟩, ⟨b0, b1', nb2, hnb2, b3, bc, bx⟩, t3, t4, t5, t6, t7, t8, h8, h9, h10, h11⟩ := hH
  have eng : ng = n := (cn_inj (by omega) (by omega)).mp (g3.symm.trans p3)
  subst eng
  have enb : nb2 = nb := (cn_inj (by omega) (by omega)).mp (b3.symm.trans p4)
  subst enb
  have el : (t + 6 - c + (c - 1)) % 6 = (t + 5) % 6 := by omega
  obtain ⟨⟨m1, m2, m3, m4, m5⟩, mV⟩ := hP (c - 1) (by omega)
  rw [el] at m1 m2 m3 m4 m5
  have lo : ∀ k, k < 112 → ovr 0 112 (fun k => w91 (112 * (c - 1) + k)) w k = w91 (112 * (c - 1) + k) := fun k hk => by
    unfold ovr
    rw [if_pos (by omega), Nat.sub_zero]
  have hi : ∀ k, 112 ≤ k → ovr 0 112 (fun k => w91 (112 * (c - 1) + k)) w k = w k := fun k hk => by
    unfold ovr
    rw [if_neg (by omega)]
  have r : ∀ j, 5 ≤ j → j ≠ 35 → u.1 j = s.1 j := fun j hj h35 => y1 j (by omega) (by omega) (by omega) (by omega) h35
  have fl : ∀ r' c', r' < ng → c' < 2 → u.1 3 (r' * 11 + c') = s.1 3 (r' * 11 + c') := fun r' c' hr hcc => by
    rw [y3 _ (by omega), m5 r' c' hr (by omega), if_pos hcc]
  have hb' := (hb (c - 1) (by omega))
  refine ⟨⟨⟨(y2 0).trans g0, (y2 1).trans g1, ng, hng, (y2 3).trans g3, (hi 112 (by omega)).trans gc, fun r' c' hr hcc => ?_⟩, ⟨(y4 0 (by decide)).trans b0, (y4 1 (by decide)).trans b1', bk (c - 1), by omega, y5, (lo 2 (by omega)).trans hb'.2, fun r' c' hr hcc => ?_⟩, ?_, ?_, ?_, ?_, ?_, ?_, ?_, ?_, ?_, ?_⟩, ?_, VIm_congr hn (fun k hk => lo k hk) mV⟩
  · by_cases h2 : c' < 2
    · rw [show (1 + 1 + 1 : Nat) = 3 from rfl, fl r' c' hr h2, gx r' c' hr hcc]
      refine (hi _ ?_).symm
      unfold ixG
      by_cases e0 : c' = 0
      · rw [if_pos e0]; omega
      · rw [if_neg e0, if_pos (by omega)]; omega
    · rw [show (1 + 1 + 1 : Nat) = 3 from rfl, y3 _ (by omega), m5 r' c' hr hcc, if_neg h2, lo _ (ixG_b (by omega) h2 hcc)]
  · rw [show (1 + 3 + 1 : Nat) = 5 from rfl, r 5 (by omega) (by omega), hi _ (by unfold ixB; omega)]
    exact bx r' c' (by omega) hcc
  · obtain ⟨q0, q1, q2, q3, q4, q5, q6⟩ := t3
    unfold LWr
    rw [r _ (by omega) (by omega), r _ (by omega) (by omega), hi 117 (by omega)]
    refine ⟨q0, q1, q2, q3, q4, q5, fun r' hr => ?_⟩
    rw [hi (985 + r') (by omega), hi (1001 + r') (by omega), hi (1017 + r') (by omega), hi (1033 + r') (by omega)]
    exact q6 r' hr
  · obtain ⟨q0, q1, q2, q3, q4, q5⟩ := t4
    unfold CWr
    rw [r _ (by omega) (by omega), r _ (by omega) (by omega)]
    refine ⟨q0, q1, q2, q3, q4, fun j hj => ?_⟩
    rw [hi (1050 + 2 * j) (by omega), hi (1050 + 2 * j + 1) (by omega)]
    exact q5 j hj
  · exact TWr_same t5 (r _ (by omega) (by omega)) (r _ (by omega) (by omega)) (hi _ (by omega)) (fun _ _ _ _ => hi _ (by unfold ixS; omega))
  · exact TWr_same t6 (r _ (by omega) (by omega)) (r _ (by omega) (by omega)) (hi _ (by omega)) (fun _ _ _ _ => hi _ (by unfold ixH; omega))
  · exact TWr_same t7 (r _ (by omega) (by omega)) (r _ (by omega) (by omega)) (hi _ (by omega)) (fun _ _ _ _ => hi _ (by unfold ixR; omega))
  · exact TWr_same t8 (r _ (by omega) (by omega)) (r _ (by omega) (by omega)) (hi _ (by omega)) (fun _ _ _ _ => hi _ (by unfold ixC; omega))
  · rw [y6 8 (by decide) (by decide), hi 113 (by omega)]; exact h8
  · rw [y6 9 (by decide) (by decide), hi 114 (by omega)]; exact h9
  · rw [y7, lo 0 (by omega)]; exact m2
  · rw [y8, lo 1 (by omega)]; exact m3
  · refine ⟨c - 1, (t + 5) % 6, ng, bk (c - 1), bk, by omega, by omega, hn, by omega, y10, y9, k3, (y2 3).trans p3, y5, fun i hi' => ⟨?_, (hb i (by omega)).2⟩, fun i hi' => hb2 i (by omega), fun i hi' => ?_, fun i hi' => ⟨?_, (hP i (by omega)).2⟩⟩
    · have q := bk_mono hb2 (c - 1 - i) i (by omega)
      rw [show i + (c - 1 - i) = c - 1 by omega] at q
      exact q
    · exact MSh_row (hm i hi') (r (37 + 3 * i + 1) (by omega) (by omega))
    · have q := (hP i (by omega)).1
      rw [show ((t + 5) % 6 + 6 - (c - 1) + i) % 6 = (t + 6 - c + i) % 6 by omega]
      unfold MOr at q ⊢
      rw [r _ (by omega) (by omega), r _ (by omega) (by omega), r _ (by omega) (by omega)]
      refine ⟨q.1, q.2.1, q.2.2.1, q.2.2.2.1, fun r' c' hr hcc => ?_⟩
      rw [q.2.2.2.2 r' c' hr hcc]
      by_cases h2 : c' < 2
      · rw [if_pos h2, if_pos h2, fl r' c' hr h2]
      · rw [if_neg h2, if_neg h2]
/-- all is forgotten on both sides -/
theorem PSr_forget {D D' : Nat → Nat → Int32} {w88 w91 w88' w91' : Nat → Int32} {n nb : Nat} (h : PSr D w88 w91) (e1 : D' 35 1 = ci 0) (e2 : D' 35 2 = D 35 2) (e3 : w88' 3 = ci 0) (hn : n ≤ 12) (e4 : D' 2 3 = cn n) (hnb : nb ≤ 150) (e5 : D' 4 3 = cn nb) (em : ∀ j, 36 ≤ j → j ≤ 54 → D' j = D j) : PSr D' w88' w91' := by
  obtain ⟨c, t, _, _, bk, hc, ht, _, _, p1, p2, _, _, _, _, _, hm, _⟩ := h
  refine ⟨0, t, n, nb, bk, by omega, ht, hn, hnb, e1.trans (by decide), e2.trans p2, e3.trans (by decide), e4, e5, fun i hi => absurd hi (by omega), fun i hi => absurd hi (by omega), fun i hi => ?_, fun i hi => absurd hi (by omega)⟩
  exact MSh_row (hm i hi) (em _ (by omega) (by omega))
/-- the book grows, the guests go and come -/
theorem PSr_go {D D' : Nat → Nat → Int32} {w88 w91 w88' w91' : Nat → Int32} {n nb nb' : Nat} (h : PSr D w88 w91) (e35 : D' 35 = D 35) (e3 : w88' 3 = w88 3) (e91 : w91' = w91) (e2 : D' 2 = D 2) (g3 : D 2 3 = cn n) (hn : n ≤ 12) (b3 : D 4 3 = cn nb) (hb : nb ≤ nb') (hb' : nb' ≤ 150) (b3' : D' 4 3 = cn nb') (em : ∀ j, 36 ≤ j → j ≤ 54 → D' j = D j) (fl : ∀ r c, r < n → c < 2 → D' 3 (r * 11 + c) = D 3 (r * 11 + c)) : PSr D' w88' w91' := by
  obtain ⟨c, t, n1, nb1, bk, hc, ht, hn1, hnb1, p1, p2, p3, p4, p5, hbk, hbk2, hm, hP⟩ := h
  have en : n1 = n := (cn_inj (by omega) (by omega)).mp (p4.symm.trans g3)
  subst en
  have enb : nb1 = nb := (cn_inj (by omega) (by omega)).mp (p5.symm.trans b3)
  subst enb
  subst e91
  refine ⟨c, t, n1, nb', bk, hc, ht, hn1, hb', by rw [e35]; exact p1, by rw [e35]; exact p2, e3.trans p3, by rw [e2]; exact p4, b3', fun i hi => ⟨by have := (hbk i hi).1; omega, (hbk i hi).2⟩, hbk2, fun i hi => ?_, fun i hi => ⟨?_, (hP i hi).2⟩⟩
  · exact MSh_row (hm i hi) (em _ (by omega) (by omega))
  · have q := (hP i hi).1
    unfold MOr at q ⊢
    rw [em _ (by omega) (by omega), em _ (by omega) (by omega), em _ (by omega) (by omega)]
    refine ⟨q.1, q.2.1, q.2.2.1, q.2.2.2.1, fun r c hr hcc => ?_⟩
    rw [q.2.2.2.2 r c hr hcc]
    by_cases h2 : c < 2
    · rw [if_pos h2, if_pos h2, fl r c hr h2]
    · rw [if_neg h2, if_neg h2]
end
