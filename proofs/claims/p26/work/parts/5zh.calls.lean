noncomputable section
/-! ALL THAT STANDS BETWEEN CALLS -/
def JS (s : mG) : Prop := JL2 s ∧ SIM s s
theorem SIM_C {a b : mG} (h : SIM a b) (k : ∀ j, 88 ≤ j → b.1 j = a.1 j) {u : mG} (q : ∀ j, 88 ≤ j → u.1 j = a.1 j) : SIM a u :=
  SIM_same h (fun _ _ => rfl) ((q 89 (by decide)).trans (k 89 (by decide)).symm) ((q 90 (by decide)).trans (k 90 (by decide)).symm) ((q 91 (by decide)).trans (k 91 (by decide)).symm) (congrFun ((q 88 (by decide)).trans (k 88 (by decide)).symm) 3) (congrFun ((q 88 (by decide)).trans (k 88 (by decide)).symm) 4)
/-- a call that tells something -/
theorem P4_of {F G : mG → Option (Int32 × mG)} {s : mG} (h : JS s) (hC : ok (F s) (fun τ => JL2 τ.2 ∧ ∀ j, 88 ≤ j → τ.2.1 j = s.1 j)) (hM : ∀ u, JL2 u → ok (G u) (fun υ => JL2 υ.2 ∧ ∀ j, j < 88 → υ.2.1 j = u.1 j)) (hR : ∀ u, SIM s u → rel (F s) (G u) (fun τ υ => τ.1 = υ.1 ∧ SIM τ.2 υ.2)) : ok (F s) (fun τ => ok (G τ.2) (fun υ => JS υ.2 ∧ τ.1 = υ.1)) := by
  obtain ⟨τ, e1, k1, k2⟩ := hC
  obtain ⟨υ, e2, m1, m2⟩ := hM τ.2 k1
  obtain ⟨r1, r2⟩ := hR τ.2 (SIM_C h.2 (fun _ _ => rfl) k2) τ e1 υ e2
  exact ⟨τ, e1, υ, e2, ⟨m1, SIM_same r2 (fun j hj => m2 j (by omega)) rfl rfl rfl rfl rfl⟩, r1⟩
/-- a call that thinks -/
theorem P5_of {F G : mG → Option (Int32 × mG)} {s : mG} (h : JS s) (hC : ok (F s) (fun τ => JS τ.2 ∧ ∀ j, 88 ≤ j → τ.2.1 j = s.1 j)) (hM : ∀ u, JS u → ok (G u) (fun υ => JS υ.2)) (hR : ∀ u, IM u → SIM s u → rel (F s) (G u) (fun τ υ => τ.1 = υ.1)) : ok (F s) (fun τ => ok (G τ.2) (fun υ => JS υ.2 ∧ τ.1 = υ.1)) := by
  obtain ⟨τ, e1, k1, k2⟩ := hC
  obtain ⟨υ, e2, m1⟩ := hM τ.2 k1
  exact ⟨τ, e1, υ, e2, m1, hR τ.2 k1.1.2.1 (SIM_C h.2 (fun _ _ => rfl) k2) τ e1 υ e2⟩
/-- a call that looks alone -/
theorem P6_of {α : Type} {F : mG → Option α} {G : mG → Option α} {P Q : α → Prop} {s : mG} (hC : ok (F s) P) (hM : ok (G s) Q) (hR : rel (F s) (G s) (fun u v => u = v)) : ok (F s) (fun u => ok (G s) (fun v => u = v)) := by
  obtain ⟨u, e1, _⟩ := hC
  obtain ⟨v, e2, _⟩ := hM
  exact ⟨u, e1, v, e2, hR u e1 v e2⟩
theorem P4_text {a1 : Int32} {s : mG} (h : JS s) : ok (F_X11_text a1 s) (fun τ => ok (F_X12_text a1 τ.2) (fun υ => JS υ.2 ∧ τ.1 = υ.1)) := by
  obtain ⟨τ, e1, υ, e2, hJ, he⟩ := P2_text (a1 := a1) h.1
  obtain ⟨hI, hM, hC, l, h1, h2, h3, h4, h5, h6⟩ := h.1
  obtain ⟨τ', e3, k1, _⟩ := T_X11_text (a1 := a1) hI
  have ee := Option.some.inj (e3.symm.trans e1)
  subst ee
  obtain ⟨υ', e4, m1, _⟩ := T_X12_text (a1 := a1) (IM_rows k1.2.1 hM)
  have ee := Option.some.inj (e4.symm.trans e2)
  subst ee
  have S := R_text (T := s.1 64) (len := l) (a1 := a1) (a := s) (b := τ'.2) (SIM_C h.2 (fun _ _ => rfl) k1.2.1) h1 (fun k hk => (h4 k hk).2) rfl h2 (CT_RS hC) (fun k hk => by rw [k1.2.1 95 (by decide)]; exact (h4 k hk).1) (by rw [k1.2.1 88 (by decide)]; exact h3) τ' e1 υ' e2
  exact ⟨τ', e1, υ', e2, ⟨hJ, SIM_same S (fun j hj => m1.2.1 j (by omega)) rfl rfl rfl rfl rfl⟩, he⟩
theorem P4_feed {a1 a2 a3 a4 a5 : Int32} {s : mG} (h : JS s) : ok (F_X11_feed a1 a2 a3 a4 a5 s) (fun τ => ok (F_X12_feed a1 a2 a3 a4 a5 τ.2) (fun υ => JS υ.2 ∧ True)) := by
  obtain ⟨τ, e1, υ, e2, hJ, _⟩ := P2_feed (a1 := a1) (a2 := a2) (a3 := a3) (a4 := a4) (a5 := a5) h.1
  obtain ⟨hI, hM, hC, l, h1, h2, h3, h4, h5, h6⟩ := h.1
  obtain ⟨τ', e3, k1, _⟩ := T_X11_feed (a1 := a1) (a2 := a2) (a3 := a3) (a4 := a4) (a5 := a5) hI
  have ee := Option.some.inj (e3.symm.trans e1)
  subst ee
  obtain ⟨υ', e4, m1, _⟩ := T_X12_feed (a1 := a1) (a2 := a2) (a3 := a3) (a4 := a4) (a5 := a5) (IM_rows k1.2.1 hM)
  have ee := Option.some.inj (e4.symm.trans e2)
  subst ee
  have w := W_X11_feed (M := 18482772870728515584) (z := s) sub_rfl KB_rfl τ' e1
  have w : KB 18482772870728515584 s τ'.2 := w
  have wr := KB_rng w (a := 0) (n := 55) (by decide +kernel)
  have t15 : τ'.2.1 88 15 = cn l := by rw [k1.2.1 88 (by decide)]; exact h3
  have d := V_feedR t15 h1 υ' e2
  have f : υ'.2.1 89 = τ'.2.1 89 ∧ υ'.2.1 90 = τ'.2.1 90 ∧ υ'.2.1 91 = τ'.2.1 91 ∧ υ'.2.1 88 3 = τ'.2.1 88 3 ∧ υ'.2.1 88 4 = τ'.2.1 88 4 := by
    rcases d with ⟨_, _, d2, d3, _, _⟩ | ⟨_, d1⟩
    · exact ⟨d2 89 (by decide) (by decide), d2 90 (by decide) (by decide), d2 91 (by decide) (by decide), d3 3 (by decide), d3 4 (by decide)⟩
    · rw [d1]; exact ⟨rfl, rfl, rfl, rfl, rfl⟩
  refine ⟨τ', e1, υ', e2, ⟨hJ, SIM_same h.2 (fun j hj => (m1.2.1 j (by omega)).trans (wr j (by omega) (by omega))) (f.1.trans (k1.2.1 89 (by decide))) (f.2.1.trans (k1.2.1 90 (by decide))) (f.2.2.1.trans (k1.2.1 91 (by decide))) (f.2.2.2.1.trans (congrFun (k1.2.1 88 (by decide)) 3)) (f.2.2.2.2.trans (congrFun (k1.2.1 88 (by decide)) 4))⟩, trivial⟩
theorem P4_end {a1 : Int32} {s : mG} (h : JS s) : ok (F_X11_end a1 s) (fun τ => ok (F_X12_end a1 τ.2) (fun υ => JS υ.2 ∧ True)) := by
  obtain ⟨τ, e1, υ, e2, hJ, _⟩ := P2_end (a1 := a1) h.1
  obtain ⟨hI, hM, hC, l, h1, h2, h3, h4, h5, h6⟩ := h.1
  have c := e1
  have d := e2
  rw [V_endC] at c
  rw [V_endR] at d
  have fc : (∀ j, j ≠ 55 → τ.2.1 j = s.1 j) := by
    by_cases q : wi a1 (ci 0) (s.1 55 9) = 0
    · rw [if_pos q] at c
      rw [← Option.some.inj c]
      exact fun _ _ => rfl
    · rw [if_neg q] at c
      rw [← Option.some.inj c]
      exact fun j hj => mu_row hj
  have fd : (∀ j, j ≠ 88 → υ.2.1 j = τ.2.1 j) ∧ ∀ c, c ≠ 15 → υ.2.1 88 c = τ.2.1 88 c := by
    by_cases q : wi a1 (ci 0) (τ.2.1 88 15) = 0
    · rw [if_pos q] at d
      rw [← Option.some.inj d]
      exact ⟨fun _ _ => rfl, fun _ _ => rfl⟩
    · rw [if_neg q] at d
      rw [← Option.some.inj d]
      exact ⟨fun j hj => mu_rowQ hj, fun c hc => mu_cellQ (Or.inr hc)⟩
  refine ⟨τ, e1, υ, e2, ⟨hJ, SIM_same h.2 (fun j hj => (fd.1 j (by omega)).trans (fc j (by omega))) ((fd.1 89 (by decide)).trans (fc 89 (by decide))) ((fd.1 90 (by decide)).trans (fc 90 (by decide))) ((fd.1 91 (by decide)).trans (fc 91 (by decide))) ((fd.2 3 (by decide)).trans (congrFun (fc 88 (by decide)) 3)) ((fd.2 4 (by decide)).trans (congrFun (fc 88 (by decide)) 4))⟩, trivial⟩
/-! the start -/
theorem s0_sim1 : s0.1 88 3 = 0 ∧ s0.1 88 4 = 0 ∧ s0.1 0 2 = 0 ∧ s0.1 35 1 = 0 ∧ s0.1 35 2 = 0 ∧ s0.1 1 8 = s0.1 89 113 ∧ s0.1 1 9 = s0.1 89 114 ∧ s0.1 1 10 = s0.1 89 0 ∧ s0.1 1 11 = s0.1 89 1 ∧ s0.1 89 0 = 0 := s0_b4
theorem s0_tabs : ∀ p ∈ ([(2, 11, 12), (4, 5, 150), (6, 4, 16), (8, 1, 400), (10, 2, 6), (12, 4, 12), (14, 4, 8), (16, 3, 8), (19, 11, 12), (21, 5, 150), (31, 4, 8), (33, 3, 8)] : List (Nat × Nat × Nat)), s0.1 p.1 0 = cn p.2.2 ∧ s0.1 p.1 1 = cn p.2.1 ∧ s0.1 p.1 3 = 0 := s0_b5
theorem s0_cnts : ∀ k ∈ ([2, 112, 115, 116, 117, 118, 1049] : List Nat), s0.1 89 k = 0 := s0_b6
theorem s0_mom : ∀ i, i < 6 → s0.1 (37 + 3 * i + 1) 0 = cn 12 ∧ s0.1 (37 + 3 * i + 1) 1 = cn 11 ∧ s0.1 (37 + 3 * i + 1) 3 = 0 := s0_b7
theorem cn_00 : (0 : Int32) = cn 0 := by decide
/-- all that the start says of tables, counts, moments -/
def Z0t (s : mG) : Prop := ∀ p ∈ ([(2, 11, 12), (4, 5, 150), (6, 4, 16), (8, 1, 400), (10, 2, 6), (12, 4, 12), (14, 4, 8), (16, 3, 8), (19, 11, 12), (21, 5, 150), (31, 4, 8), (33, 3, 8)] : List (Nat × Nat × Nat)), s.1 p.1 0 = cn p.2.2 ∧ s.1 p.1 1 = cn p.2.1 ∧ s.1 p.1 3 = 0
def Z0c (s : mG) : Prop := ∀ k ∈ ([2, 112, 115, 116, 117, 118, 1049] : List Nat), s.1 89 k = 0
theorem Z0_t {s : mG} (T : Z0t s) {t W M : Nat} (hp : (t, W, M) ∈ ([(2, 11, 12), (4, 5, 150), (6, 4, 16), (8, 1, 400), (10, 2, 6), (12, 4, 12), (14, 4, 8), (16, 3, 8), (19, 11, 12), (21, 5, 150), (31, 4, 8), (33, 3, 8)] : List (Nat × Nat × Nat))) : s.1 t 0 = cn M ∧ s.1 t 1 = cn W ∧ s.1 t 3 = 0 := T (t, W, M) hp
theorem TW_of {s : mG} (T : Z0t s) (C : Z0c s) {t W M cnt : Nat} {ix : Nat → Nat → Nat} (hp : (t, W, M) ∈ ([(2, 11, 12), (4, 5, 150), (6, 4, 16), (8, 1, 400), (10, 2, 6), (12, 4, 12), (14, 4, 8), (16, 3, 8), (19, 11, 12), (21, 5, 150), (31, 4, 8), (33, 3, 8)] : List (Nat × Nat × Nat))) (hc : cnt ∈ ([2, 112, 115, 116, 117, 118, 1049] : List Nat)) : TWr t W M cnt ix s.1 (s.1 89) := by
  obtain ⟨h1, h2, h3⟩ := Z0_t T hp
  exact ⟨h1, h2, 0, Nat.zero_le _, h3.trans cn_00, (C cnt hc).trans cn_00, fun r c hr => absurd hr (by omega)⟩
theorem TS_of {s : mG} (T : Z0t s) {t W M : Nat} (hp : (t, W, M) ∈ ([(2, 11, 12), (4, 5, 150), (6, 4, 16), (8, 1, 400), (10, 2, 6), (12, 4, 12), (14, 4, 8), (16, 3, 8), (19, 11, 12), (21, 5, 150), (31, 4, 8), (33, 3, 8)] : List (Nat × Nat × Nat))) : TS t W M s := by
  obtain ⟨h1, h2, h3⟩ := Z0_t T hp
  exact ⟨h1, h2, 0, Nat.zero_le _, h3.trans cn_00⟩
theorem SIM_of {s : mG} (z : s.1 88 3 = 0 ∧ s.1 88 4 = 0 ∧ s.1 0 2 = 0 ∧ s.1 35 1 = 0 ∧ s.1 35 2 = 0 ∧ s.1 1 8 = s.1 89 113 ∧ s.1 1 9 = s.1 89 114 ∧ s.1 1 10 = s.1 89 0 ∧ s.1 1 11 = s.1 89 1 ∧ s.1 89 0 = 0) (T : Z0t s) (C : Z0c s) (Mo : ∀ i, i < 6 → s.1 (37 + 3 * i + 1) 0 = cn 12 ∧ s.1 (37 + 3 * i + 1) 1 = cn 11 ∧ s.1 (37 + 3 * i + 1) 3 = 0) : SIM s s := by
  obtain ⟨z3, z4, z02, z35, z352, y8, y9, y10, y11, z0⟩ := z
  have t2 := (Z0_t T (t := 2) (W := 11) (M := 12) (by decide)).2.2
  have t4 := (Z0_t T (t := 4) (W := 5) (M := 150) (by decide)).2.2
  obtain ⟨l0, l1, l3⟩ := Z0_t T (t := 6) (W := 4) (M := 16) (by decide)
  obtain ⟨c0, c1, c3⟩ := Z0_t T (t := 8) (W := 1) (M := 400) (by decide)
  have w117 : s.1 89 117 = 0 := C 117 (by decide)
  refine ⟨⟨0, 0, 0, by omega, by omega, t2.trans cn_00, t4.trans cn_00, c3.trans cn_00, ⟨TW_of T C (by decide) (by decide), TW_of T C (by decide) (by decide), ⟨l0, l1, 0, by omega, l3.trans cn_00, w117.trans cn_00, fun r hr => absurd hr (by omega)⟩, ⟨c0, c1, 0, by omega, c3.trans cn_00, fun j hj => absurd hj (by omega)⟩, TW_of T C (by decide) (by decide), TW_of T C (by decide) (by decide), TW_of T C (by decide) (by decide), TW_of T C (by decide) (by decide), y8, y9, y10, y11⟩, ⟨by omega, 0, by omega, w117.trans cn_00, fun r hr => absurd hr (by omega)⟩, ⟨?_, ?_, fun g hg => absurd hg (by omega)⟩⟩, ⟨0, 0, 0, 0, fun _ => 0, by omega, by omega, by omega, by omega, z35.trans cn_00, z352.trans cn_00, z3.trans cn_00, t2.trans cn_00, t4.trans cn_00, fun i hi => absurd hi (by omega), fun i hi => absurd hi (by omega), fun i hi => ⟨(Mo i hi).1, (Mo i hi).2.1, 0, by omega, (Mo i hi).2.2.trans cn_00⟩, fun i hi => absurd hi (by omega)⟩, Or.inl z4, z02.trans z4.symm, ⟨TS_of T (by decide), TS_of T (by decide), TS_of T (by decide), TS_of T (by decide)⟩, fun hne => absurd z4 hne⟩
  · rw [z0, t_zero]; omega
  · rw [z0, t_zero]; omega
theorem SIM_s0 : SIM s0 s0 := SIM_of s0_sim1 s0_tabs s0_cnts s0_mom
end
