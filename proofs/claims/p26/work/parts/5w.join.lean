noncomputable section
/-! WHAT BOTH SIDES SHARE of the tape and its fault -/
def JT (s : mG) : Prop := ∃ l : Nat, l ≤ 400 ∧ s.1 55 9 = cn l ∧ s.1 88 15 = cn l ∧ (∀ k, k < l → s.1 95 k = s.1 64 k ∧ 0 ≤ (s.1 64 k).toInt ∧ (s.1 64 k).toInt ≤ 255) ∧ s.1 55 10 = s.1 88 22 ∧ s.1 55 11 = s.1 88 24
def JL2 (s : mG) : Prop := IC s ∧ IM s ∧ CTs s ∧ JT s
theorem TL_r : ∀ p ∈ TL, (6 ≤ p.1 ∧ p.1 ≤ 13) ∨ (19 ≤ p.1 ∧ p.1 ≤ 34) ∨ (55 ≤ p.1 ∧ p.1 ≤ 67) := by decide
theorem JT_same {s s' : mG} (h : JT s) (e55 : s'.1 55 = s.1 55) (e64 : s'.1 64 = s.1 64) (e95 : s'.1 95 = s.1 95) (q : KQw s s') : JT s' := by
  obtain ⟨l, h1, h2, h3, h4, h5, h6⟩ := h
  unfold JT
  rw [e55, e64, e95, q.1, q.2.1, q.2.2]
  exact ⟨l, h1, h2, h3, h4, h5, h6⟩
theorem JC0 {b : Bool} {s s' : mG} (h : JL2 s) (k : RC b s s') (c : CTs s') (e55 : s'.1 55 = s.1 55) (e64 : s'.1 64 = s.1 64) : JL2 s' := by
  have e88 := k.2.1 88 (by decide)
  exact ⟨k.1, IM_rows k.2.1 h.2.1, c, JT_same h.2.2.2 e55 e64 (k.2.1 95 (by decide)) ⟨congrFun e88 15, congrFun e88 22, congrFun e88 24⟩⟩
theorem JC2 {b : Bool} {s s' : mG} (h : JL2 s) (k : RC b s s') (r1 : ∀ j, 6 ≤ j → j < 6 + 8 → s'.1 j = s.1 j) (r2 : ∀ j, 19 ≤ j → j < 19 + 16 → s'.1 j = s.1 j) (r3 : ∀ j, 55 ≤ j → j < 55 + 13 → s'.1 j = s.1 j) : JL2 s' :=
  JC0 h k (CT_rows h.2.2.1 (fun p hp => (TL_r p hp).elim (fun e => r1 p.1 e.1 (by omega)) (fun e => e.elim (fun e => r2 p.1 e.1 (by omega)) (fun e => r3 p.1 e.1 (by omega))))) (r3 55 (by decide) (by decide)) (r3 64 (by decide) (by decide))
theorem JM2 {s s' : mG} (h : JL2 s) (hI : IM s') (low : ∀ j, j < 88 → s'.1 j = s.1 j) (q : KQw s s') (e95 : s'.1 95 = s.1 95) : JL2 s' :=
  ⟨IC_rows low h.1, hI, CT_rows h.2.2.1 (fun p hp => low p.1 (by have := TL_r p hp; omega)), JT_same h.2.2.2 (low 55 (by decide)) (low 64 (by decide)) e95 q⟩
theorem CT_RS {s : mG} (h : CTs s) : RS0 s :=
  ⟨(h (65, 3, 401) (by decide)).1, (h (65, 3, 401) (by decide)).2.1, (h (56, 4, 16) (by decide)).1, (h (56, 4, 16) (by decide)).2.1, (h (58, 1, 400) (by decide)).1, (h (58, 1, 400) (by decide)).2.1, (h (60, 2, 6) (by decide)).1, (h (60, 2, 6) (by decide)).2.1, (h (62, 4, 12) (by decide)).1, (h (62, 4, 12) (by decide)).2.1⟩
theorem P2_text {a1 : Int32} {s : mG} (h : JL2 s) : ok (F_X11_text a1 s) (fun τ => ok (F_X12_text a1 τ.2) (fun υ => JL2 υ.2 ∧ τ.1 = υ.1)) := by
  obtain ⟨hI, hM, hC, l, h1, h2, h3, h4, h5, h6⟩ := h
  obtain ⟨τ, e1, k1, k2⟩ := T_X11_text (a1 := a1) hI
  obtain ⟨υ, e2, m1, m2⟩ := T_X12_text (a1 := a1) (IM_rows k1.2.1 hM)
  have r := S_text (T := s.1 64) (len := l) (a1 := a1) (a := s) (b := τ.2) h1 (fun k hk => (h4 k hk).2) rfl h2 (CT_RS hC) (hC (6, 4, 16) (by decide)) (hC (8, 1, 400) (by decide)) (hC (10, 2, 6) (by decide)) (hC (12, 4, 12) (by decide)) (fun k hk => by rw [k1.2.1 95 (by decide)]; exact (h4 k hk).1) (by rw [k1.2.1 88 (by decide)]; exact h3) τ e1 υ e2
  obtain ⟨r1, r2, r3, r4, r5⟩ := r
  have z := Z_X11_text hC τ e1
  have low := m1.2.1
  refine ⟨τ, e1, υ, e2, ⟨IC_rows low k1.1, m1.1, CT_rows z (fun p hp => low p.1 (by have := TL_r p hp; omega)), 0, by omega, ?_, ?_, fun k hk => absurd hk (by omega), ?_, ?_⟩, r1⟩
  · rw [low 55 (by decide)]; exact r2
  · exact r3
  · rw [low 55 (by decide)]; exact r4
  · rw [low 55 (by decide)]; exact r5
theorem P2_feed {a1 a2 a3 a4 a5 : Int32} {s : mG} (h : JL2 s) : ok (F_X11_feed a1 a2 a3 a4 a5 s) (fun τ => ok (F_X12_feed a1 a2 a3 a4 a5 τ.2) (fun υ => JL2 υ.2 ∧ True)) := by
  obtain ⟨hI, hM, hC, l, h1, h2, h3, h4, h5, h6⟩ := h
  obtain ⟨τ, e1, k1, _⟩ := T_X11_feed (a1 := a1) (a2 := a2) (a3 := a3) (a4 := a4) (a5 := a5) hI
  obtain ⟨υ, e2, m1, _⟩ := T_X12_feed (a1 := a1) (a2 := a2) (a3 := a3) (a4 := a4) (a5 := a5) (IM_rows k1.2.1 hM)
  have low := m1.2.1
  have e88 := k1.2.1 88 (by decide)
  have e95 := k1.2.1 95 (by decide)
  have t15 : τ.2.1 88 15 = cn l := by rw [e88]; exact h3
  have c := V_feedC h2 h1 τ e1
  have d := V_feedR t15 h1 υ e2
  refine ⟨τ, e1, υ, e2, ?_, trivial⟩
  rcases c with ⟨c0, c1, c2, c3, c4, c5⟩ | ⟨c0, c1⟩
  · rcases d with ⟨_, d1, d2, d3, d4, d5⟩ | ⟨d0, _⟩
    · refine ⟨IC_rows low k1.1, m1.1, CT_rows hC (fun p hp => (low p.1 (by have := TL_r p hp; omega)).trans (c2 p.1 (by revert p; decide) (by revert p; decide))), l + 20, c0, ?_, d1, fun k hk => ?_, ?_, ?_⟩
      · rw [low 55 (by decide)]; exact c1
      · rw [low 64 (by decide)]
        by_cases hl : k < l
        · rw [d4 k hl, e95, c4 k hl]; exact h4 k hl
        · have ek : k = l + (k - l) := by omega
          rw [ek, d5 (k - l) (by omega), c5 (k - l) (by omega)]
          exact ⟨rfl, bt_b⟩
      · rw [low 55 (by decide), c3 10 (by decide), d3 22 (by decide), e88]; exact h5
      · rw [low 55 (by decide), c3 11 (by decide), d3 24 (by decide), e88]; exact h6
    · exact absurd c0 d0
  · rcases d with ⟨d0, _⟩ | ⟨_, d1⟩
    · exact absurd d0 c0
    · rw [d1, c1]
      exact ⟨hI, hM, hC, l, h1, h2, h3, h4, h5, h6⟩
theorem P2_end {a1 : Int32} {s : mG} (h : JL2 s) : ok (F_X11_end a1 s) (fun τ => ok (F_X12_end a1 τ.2) (fun υ => JL2 υ.2 ∧ True)) := by
  obtain ⟨hI, hM, hC, l, h1, h2, h3, h4, h5, h6⟩ := h
  obtain ⟨τ, e1, k1, _⟩ := T_X11_end (a1 := a1) hI
  obtain ⟨υ, e2, m1, _⟩ := T_X12_end (a1 := a1) (IM_rows k1.2.1 hM)
  refine ⟨τ, e1, υ, e2, ?_, trivial⟩
  have low := m1.2.1
  have e88 := k1.2.1 88 (by decide)
  have c := e1
  have d := e2
  rw [V_endC, h2] at c
  rw [V_endR, e88, h3] at d
  by_cases q : wi a1 (ci 0) (cn l) = 0
  · rw [if_pos q] at c d
    have c := Option.some.inj c
    have d := Option.some.inj d
    rw [← d]
    show JL2 τ.2
    rw [← c]
    exact ⟨hI, hM, hC, l, h1, h2, h3, h4, h5, h6⟩
  · rw [if_neg q] at c d
    obtain ⟨m, hm, em⟩ := wi_cn (by omega) q
    have c := Option.some.inj c
    have d := Option.some.inj d
    have c2 : τ.2 = (mu s.1 55 9 a1, s.2) := by rw [← c]
    have d2 : υ.2 = (mu τ.2.1 88 15 a1, τ.2.2) := by rw [← d]
    have row : ∀ j, j ≠ 55 → j ≠ 88 → υ.2.1 j = s.1 j := fun j h1 h2 => by
      rw [d2]
      refine (mu_rowQ h2).trans ?_
      rw [c2]
      exact mu_rowQ h1
    have c55 : ∀ k, k ≠ 9 → υ.2.1 55 k = s.1 55 k := fun k hk => by
      rw [d2]
      refine (congrFun (mu_rowQ (by decide)) k).trans ?_
      rw [c2]
      exact mu_cellQ (Or.inr hk)
    have c88 : ∀ k, k ≠ 15 → υ.2.1 88 k = s.1 88 k := fun k hk => by
      rw [d2]
      refine (mu_cellQ (Or.inr hk)).trans ?_
      rw [c2]
      exact congrFun (mu_rowQ (by decide)) k
    refine ⟨IC_rows low k1.1, m1.1, ?_, m, by omega, ?_, ?_, fun k hk => ?_, ?_, ?_⟩
    · exact CT_rows hC (fun p hp => row p.1 (by revert p; decide) (by revert p; decide))
    · rw [low 55 (by decide), c2]
      exact mu_sameQ.trans em
    · rw [d2]
      exact mu_sameQ.trans em
    · rw [row 95 (by decide) (by decide), row 64 (by decide) (by decide)]
      exact h4 k (by omega)
    · rw [c55 10 (by decide), c88 22 (by decide)]; exact h5
    · rw [c55 11 (by decide), c88 24 (by decide)]; exact h6
/-! fault -/
def fa (s : mG) (a : Int32) : Int32 := if a = 0 then s.1 55 10 else if a = ci 1 then s.1 55 11 else ci (-1)
theorem A_X11_fault {a1 : Int32} {s : mG} : ok (F_X11_fault s a1) (fun v => v = fa s a1) := by
  unfold F_X11_fault fa
  refine ok_ite (fun c => ?_) (fun c => ?_)
  · exact ok_some (if_pos c).symm
  refine ok_ite (fun c2 => ?_) (fun c2 => ?_)
  · exact ok_some (by rw [if_neg c, if_pos c2])
  · exact ok_some (by rw [if_neg c, if_neg c2])
theorem A_X12_fault {a1 : Int32} {s : mG} (h : JL2 s) : ok (F_X12_fault s a1) (fun v => v = fa s a1) := by
  obtain ⟨hI, hM, hC, l, h1, h2, h3, h4, h5, h6⟩ := h
  unfold F_X12_fault fa
  refine ok_ite (fun c => ?_) (fun c => ?_)
  · exact ok_some (by rw [if_pos c, h5])
  refine ok_ite (fun c2 => ?_) (fun c2 => ?_)
  · exact ok_some (by rw [if_neg c, if_pos c2, h6])
  · exact ok_some (by rw [if_neg c, if_neg c2])
/-! the start -/
theorem s0_tl : ∀ p ∈ TL, s0.1 p.1 0 = cn p.2.2 ∧ s0.1 p.1 1 = cn p.2.1 ∧ s0.1 p.1 3 = 0 := s0_b1
theorem s0_fa : s0.1 55 10 = s0.1 88 22 ∧ s0.1 55 11 = s0.1 88 24 := s0_b2
theorem s0_ln : s0.1 55 9 = cn 0 ∧ s0.1 88 15 = cn 0 := s0_b3
theorem cn_z : (0 : Int32) = cn 0 := by decide
theorem CT_s0 : CTs s0 := fun p hp => ⟨(s0_tl p hp).1, (s0_tl p hp).2.1, 0, Nat.zero_le _, (s0_tl p hp).2.2.trans cn_z⟩
theorem JT_s0 : JT s0 := ⟨0, by omega, s0_ln.1, s0_ln.2, fun k hk => absurd hk (by omega), s0_fa.1, s0_fa.2⟩
end
