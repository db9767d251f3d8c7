/-! THE REFERENCE: the image; what is fed -/
def wsum (s s' : mG) : Prop := (∀ j, j ≠ 88 → j ≠ 89 → j ≠ 90 → s'.1 j = s.1 j)
theorem t_1894 : (c16 1894).toInt = 1894 := by decide
theorem img_67 {s1 : mG} {Q : Int32 × mG → Prop} (h : ∀ s', s' = (mu s1.1 88 4 (ci 1), s1.2) → Q (ci 1, s')) : ok (F_X12_image_67 s1) Q := by
  unfold F_X12_image_67
  exact ok_some (h _ rfl)
theorem img_take {s : mG} {a1 : Int32} (ha : ¬ a1 = 0) (hI : IM s) : ok (F_X12_image_13 a1 s) (fun τ => PB τ.1 ∧ RW s τ.2) := by
  unfold F_X12_image_13 F_X12_image_L15
  refine ok_whl (fun v => a1 = v.1 ∧ (∀ j, j ≠ 90 → v.2.2.1 j = s.1 j) ∧ 0 ≤ v.2.1.toInt ∧ v.2.1.toInt ≤ 1894 ∧ (∀ k : Nat, (k : Int) < v.2.1.toInt → v.2.2.1 90 k = s.1 89 k)) (fun v => mUp v.2.1) ⟨rfl, fun _ _ => rfl, show 0 ≤ (ci 0).toInt by decide, show (ci 0).toInt ≤ 1894 by decide, fun k (hk : (k : Int) < (ci 0).toInt) => by rw [show (ci 0).toInt = 0 by decide] at hk; omega⟩ (fun v hv => ?_)
  obtain ⟨x1, x2, s1⟩ := v
  obtain ⟨rfl, r1, r2, r3, r4⟩ := hv
  have h1 : ∀ j, j ≠ 90 → s1.1 j = s.1 j := r1
  have h2 : 0 ≤ x2.toInt := r2
  have h3 : x2.toInt ≤ 1894 := r3
  have h4 : ∀ k : Nat, (k : Int) < x2.toInt → s1.1 90 k = s.1 89 k := r4
  clear r1 r2 r3 r4
  show ok (F_X12_image_B15 a1 x2 s1) _
  unfold F_X12_image_B15
  refine ok_ite (fun c => ?_) (fun c => ?_)
  · have c2 := r_le t_1894 (rfl : x2.toInt = _) c
    rw [if_neg ha]
    refine ok_b1r (img_67 (fun s' hs' => ⟨pb1, ?_⟩))
    have row : ∀ j, j ≠ 88 → s'.1 j = s1.1 j := fun j hj => by rw [hs']; exact mu_rowP hj
    have cell : ∀ k, k ≠ 4 → s'.1 88 k = s1.1 88 k := fun k hk => by rw [hs']; exact mu_cellP (Or.inr hk)
    clear hs'
    have e89 : s'.1 89 = s.1 89 := (row 89 (by decide)).trans (h1 89 (by decide))
    have e91 : s'.1 91 = s.1 91 := (row 91 (by decide)).trans (h1 91 (by decide))
    have e90 : ∀ k : Nat, k < 1894 → s'.1 90 k = s.1 89 k := fun k hk => (congrFun (row 90 (by decide)) k).trans (h4 k (by omega))
    have e3 : s'.1 88 3 = s.1 88 3 := (cell 3 (by decide)).trans (congrFun (h1 88 (by decide)) 3)
    have e15 : s'.1 88 15 = s.1 88 15 := (cell 15 (by decide)).trans (congrFun (h1 88 (by decide)) 15)
    refine ⟨⟨by rw [e89]; exact hI.1, by rw [e89]; exact hI.2.1, fun _ => ⟨?_, ?_⟩, by rw [e3]; exact hI.2.2.2.1, by rw [e3, e89, e91]; exact hI.2.2.2.2.1, by rw [e15]; exact hI.2.2.2.2.2⟩, fun j hj => (row j (by omega)).trans (h1 j (by omega)), e15⟩
    · exact WI_congr (fun j hj => e90 j (by unfold kW at hj; omega)) hI.1
    · rw [e90 112 (by decide)]
      exact KI_congr (fun j hj => e90 j (by unfold kK at hj; omega)) hI.2.1
  · have c2 := r_nle t_1894 (rfl : x2.toInt = _) c
    rw [if_neg ha]
    refine ok_nn (ix_ok (rfl : x2.toInt = _) (by omega) (by omega)) ?_
    refine ok_nn (ix_ok (rfl : x2.toInt = _) (by omega) (by omega)) ?_
    rw [t_nat]
    extract_lets +onlyGivenNames s14
    have g1 : ∀ j, j ≠ 90 → s14.1 j = s.1 j := fun j hj => (mu_rowP hj : s14.1 j = s1.1 j).trans (h1 j hj)
    have g0 : s14.1 90 x2.toInt.toNat = s.1 89 x2.toInt.toNat := (mu_sameP : s14.1 90 x2.toInt.toNat = s1.1 89 x2.toInt.toNat).trans (by rw [h1 89 (by decide)])
    have g2 : ∀ k, k ≠ x2.toInt.toNat → s14.1 90 k = s1.1 90 k := fun k hk => mu_cellP (Or.inr hk)
    clear_value s14
    have g4 : ∀ k : Nat, (k : Int) < (x2 + ci 1).toInt → s14.1 90 k = s.1 89 k := by
      intro k hk
      rw [t_up (by omega)] at hk
      by_cases q : k = x2.toInt.toNat
      · subst q; exact g0
      · rw [g2 _ q]; exact h4 k (by omega)
    unfold F_X12_image_53
    exact ok_some (lp_inl ⟨rfl, g1, up_0 (x := x2) h2 (by omega), up_le (x := x2) (by omega) (by omega), g4⟩ (up_t (x := x2) (by omega)))
theorem img_give {s : mG} {a1 : Int32} (ha : a1 = 0) (hk : ¬ s.1 88 4 = 0) (hI : IM s) : ok (F_X12_image_13 a1 s) (fun τ => PB τ.1 ∧ RW s τ.2) := by
  have hkk := hI.2.2.1 hk
  unfold F_X12_image_13 F_X12_image_L15
  refine ok_whl (fun v => a1 = v.1 ∧ (∀ j, j ≠ 89 → v.2.2.1 j = s.1 j) ∧ 0 ≤ v.2.1.toInt ∧ v.2.1.toInt ≤ 1894 ∧ (∀ k : Nat, (k : Int) < v.2.1.toInt → v.2.2.1 89 k = s.1 90 k)) (fun v => mUp v.2.1) ⟨rfl, fun _ _ => rfl, show 0 ≤ (ci 0).toInt by decide, show (ci 0).toInt ≤ 1894 by decide, fun k (hk : (k : Int) < (ci 0).toInt) => by rw [show (ci 0).toInt = 0 by decide] at hk; omega⟩ (fun v hv => ?_)
  obtain ⟨x1, x2, s1⟩ := v
  obtain ⟨r0, r1, r2, r3, r4⟩ := hv
  have h0 : a1 = x1 := r0
  have h1 : ∀ j, j ≠ 89 → s1.1 j = s.1 j := r1
  have h2 : 0 ≤ x2.toInt := r2
  have h3 : x2.toInt ≤ 1894 := r3
  have h4 : ∀ k : Nat, (k : Int) < x2.toInt → s1.1 89 k = s.1 90 k := r4
  clear r0 r1 r2 r3 r4
  have hx : x1 = 0 := h0.symm.trans ha
  show ok (F_X12_image_B15 x1 x2 s1) _
  unfold F_X12_image_B15
  refine ok_ite (fun c => ?_) (fun c => ?_)
  · have c2 := r_le t_1894 (rfl : x2.toInt = _) c
    rw [if_pos hx]
    unfold F_X12_forgets
    refine ok_b1 (ok_some (Q := fun s' => s' = (mu s1.1 88 3 (ci 0), s1.2)) rfl) (fun s6 hs6 => ?_)
    refine ok_b1r (img_67 (fun s' hs' => ⟨pb1, ?_⟩))
    have row : ∀ j, j ≠ 88 → s'.1 j = s1.1 j := fun j hj => by rw [hs', hs6]; exact (mu_rowP hj).trans (mu_rowP hj)
    have cell : ∀ k, k ≠ 4 → k ≠ 3 → s'.1 88 k = s1.1 88 k := fun k hk hk3 => by rw [hs', hs6]; exact (mu_cellP (Or.inr hk)).trans (mu_cellP (Or.inr hk3))
    have e3 : s'.1 88 3 = ci 0 := by
      rw [hs', hs6]
      exact (mu_cellP (Or.inr (by decide))).trans mu_sameP
    clear hs' hs6
    have z : (ci 0).toInt = 0 := by decide
    have e89 : ∀ k : Nat, k < 1894 → s'.1 89 k = s.1 90 k := fun k hk => (congrFun (row 89 (by decide)) k).trans (h4 k (by omega))
    have e90 : s'.1 90 = s.1 90 := (row 90 (by decide)).trans (h1 90 (by decide))
    have e15 : s'.1 88 15 = s.1 88 15 := (cell 15 (by decide) (by decide)).trans (congrFun (h1 88 (by decide)) 15)
    refine ⟨⟨?_, ?_, fun _ => by rw [e90]; exact hkk, by rw [e3, z]; omega, fun j _ hl => by rw [e3, z] at hl; omega, by rw [e15]; exact hI.2.2.2.2.2⟩, fun j hj => (row j (by omega)).trans (h1 j (by omega)), e15⟩
    · exact WI_congr (fun j hj => e89 j (by unfold kW at hj; omega)) hkk.1
    · rw [e89 112 (by decide)]
      exact KI_congr (fun j hj => e89 j (by unfold kK at hj; omega)) hkk.2
  · have c2 := r_nle t_1894 (rfl : x2.toInt = _) c
    rw [if_pos hx]
    refine ok_nn (ix_ok (rfl : x2.toInt = _) (by omega) (by omega)) ?_
    refine ok_nn (ix_ok (rfl : x2.toInt = _) (by omega) (by omega)) ?_
    rw [t_nat]
    extract_lets +onlyGivenNames s11
    have g1 : ∀ j, j ≠ 89 → s11.1 j = s.1 j := fun j hj => (mu_rowP hj : s11.1 j = s1.1 j).trans (h1 j hj)
    have g0 : s11.1 89 x2.toInt.toNat = s.1 90 x2.toInt.toNat := (mu_sameP : s11.1 89 x2.toInt.toNat = s1.1 90 x2.toInt.toNat).trans (by rw [h1 90 (by decide)])
    have g2 : ∀ k, k ≠ x2.toInt.toNat → s11.1 89 k = s1.1 89 k := fun k hk => mu_cellP (Or.inr hk)
    clear_value s11
    have g4 : ∀ k : Nat, (k : Int) < (x2 + ci 1).toInt → s11.1 89 k = s.1 90 k := by
      intro k hk
      rw [t_up (by omega)] at hk
      by_cases q : k = x2.toInt.toNat
      · subst q; exact g0
      · rw [g2 _ q]; exact h4 k (by omega)
    unfold F_X12_image_53
    exact ok_some (lp_inl ⟨h0, g1, up_0 (x := x2) h2 (by omega), up_le (x := x2) (by omega) (by omega), g4⟩ (up_t (x := x2) (by omega)))
theorem T_X12_image {a1 : Int32} {s : mG} (hI : IM s) : ok (F_X12_image a1 s) (fun τ => PB τ.1 ∧ RW s τ.2) := by
  unfold F_X12_image
  refine ok_ite (fun c => ?_) (fun c => img_take c hI)
  refine ok_ite (fun _ => ok_some ⟨pb0, RW_refl hI⟩) (fun k => img_give c k hI)
/-! what is fed, and where the tape ends -/
def RF (s s' : mG) : Prop := IM s' ∧ (∀ j, j < 88 → s'.1 j = s.1 j) ∧ ∀ j, SK j → s'.1 89 j = s.1 89 j
theorem RF_RX {s s' : mG} (h : RX s s') : RF s s' := ⟨h.1.1, h.1.2.1, h.2⟩
theorem IM_taped {s s' : mG} (h : IM s) (row : ∀ j, j ≠ 88 → j ≠ 95 → s'.1 j = s.1 j) (e3 : s'.1 88 3 = s.1 88 3) (e4 : s'.1 88 4 = s.1 88 4) (h15 : 0 ≤ (s'.1 88 15).toInt ∧ (s'.1 88 15).toInt ≤ 400) : IM s' := by
  refine ⟨?_, ?_, ?_, by rw [e3]; exact h.2.2.2.1, ?_, h15⟩
  · rw [row 89 (by decide) (by decide)]; exact h.1
  · rw [row 89 (by decide) (by decide)]; exact h.2.1
  · rw [e4, row 90 (by decide) (by decide)]; exact h.2.2.1
  · rw [e3, row 91 (by decide) (by decide), row 89 (by decide) (by decide)]; exact h.2.2.2.2.1
theorem T_X12_feed {a1 a2 a3 a4 a5 : Int32} {s : mG} (hI : IM s) : ok (F_X12_feed a1 a2 a3 a4 a5 s) (fun τ => RF s τ.2 ∧ τ.1 = fdr (s.1 88 15) ∧ τ.2.1 88 15 = fdl (s.1 88 15)) := by
  have i := im_tape hI
  unfold F_X12_feed fdr fdl
  refine ok_ite (fun c => ?_) (fun c => ?_)
  · rw [if_pos c, if_pos c]
    have c1 := r_le (r_add (rfl : (s.1 88 15).toInt = _) (by decide : (c8 20).toInt = 20) (by omega) (by omega)) (by decide : (c16 400).toInt = 400) c
    unfold F_X12_feed_L18
    refine ok_whl (fun v => a1 = v.1 ∧ a2 = v.2.1 ∧ a3 = v.2.2.1 ∧ a4 = v.2.2.2.1 ∧ a5 = v.2.2.2.2.1 ∧ (∀ j, j ≠ 88 → j ≠ 95 → v.2.2.2.2.2.2.1 j = s.1 j) ∧ (∀ k, k ≠ 15 → v.2.2.2.2.2.2.1 88 k = s.1 88 k) ∧ 0 ≤ v.2.2.2.2.2.1.toInt ∧ v.2.2.2.2.2.1.toInt ≤ 20 ∧ v.2.2.2.2.2.2.1 88 15 = s.1 88 15 + v.2.2.2.2.2.1) (fun v => mUp v.2.2.2.2.2.1) ⟨rfl, rfl, rfl, rfl, rfl, fun _ _ _ => rfl, fun _ _ => rfl, show 0 ≤ (ci 0).toInt by decide, show (ci 0).toInt ≤ 20 by decide, show s.1 88 15 = s.1 88 15 + ci 0 by rw [show ci 0 = 0 by decide, Int32.add_zero]⟩ (fun v hv => ?_)
    obtain ⟨x1, x2, x3, x4, x5, x6, s1⟩ := v
    obtain ⟨rfl, rfl, rfl, rfl, rfl, r1, r2, r3, r4, r5⟩ := hv
    have h1 : ∀ j, j ≠ 88 → j ≠ 95 → s1.1 j = s.1 j := r1
    have h2 : ∀ k, k ≠ 15 → s1.1 88 k = s.1 88 k := r2
    have h3 : 0 ≤ x6.toInt := r3
    have h4 : x6.toInt ≤ 20 := r4
    have h5 : s1.1 88 15 = s.1 88 15 + x6 := r5
    clear r1 r2 r3 r4 r5
    have t5 : (s1.1 88 15).toInt = (s.1 88 15).toInt + x6.toInt := by rw [h5]; exact t_add (by omega) (by omega)
    show ok (F_X12_feed_B18 a1 a2 a3 a4 a5 x6 s1) _
    unfold F_X12_feed_B18
    refine ok_ite (fun q => ?_) (fun q => ?_)
    · have q1 := r_le (by decide : (c8 20).toInt = 20) (rfl : x6.toInt = _) q
      have e6 : x6 = c8 20 := Int32.toInt_inj.mp (by rw [(by decide : (c8 20).toInt = 20)]; omega)
      have e15 : s1.1 88 15 = s.1 88 15 + c8 20 := by rw [h5, e6]
      have b15 : 0 ≤ (s1.1 88 15).toInt ∧ (s1.1 88 15).toInt ≤ 400 := by omega
      refine ok_some (lp_inr ⟨⟨IM_taped hI h1 (h2 3 (by decide)) (h2 4 (by decide)) b15, fun j hj => h1 j (by omega) (by omega), fun j _ => congrFun (h1 89 (by decide) (by decide)) j⟩, e15, e15⟩)
    · have q1 := r_nle (by decide : (c8 20).toInt = 20) (rfl : x6.toInt = _) q
      have fin : ∀ y, ok (F_X12_feed_71 a1 a2 a3 a4 a5 x6 y s1) (fun r => ∃ s', r = Sum.inl (a1, a2, a3, a4, a5, x6 + ci 1, s') ∧ (∀ j, j ≠ 88 → j ≠ 95 → s'.1 j = s.1 j) ∧ (∀ k, k ≠ 15 → s'.1 88 k = s.1 88 k) ∧ s'.1 88 15 = s.1 88 15 + (x6 + ci 1)) := by
        intro y
        unfold F_X12_feed_71
        refine ok_nn (ix_ok t5 (by omega) (by omega)) ?_
        extract_lets +onlyGivenNames s8
        have g1 : ∀ j, j ≠ 95 → s8.1 j = s1.1 j := fun j hj => mu_rowP hj
        clear_value s8
        have g88 : s8.1 88 = s1.1 88 := g1 88 (by decide)
        extract_lets +onlyGivenNames s9
        have k1 : ∀ j, j ≠ 88 → s9.1 j = s8.1 j := fun j hj => mu_rowP hj
        have k2 : ∀ k, k ≠ 15 → s9.1 88 k = s8.1 88 k := fun k hk => mu_cellP (Or.inr hk)
        have k3 : s9.1 88 15 = s8.1 88 15 + ci 1 := mu_sameP
        clear_value s9
        exact ok_some ⟨s9, rfl, fun j h8 h9 => (k1 j h8).trans ((g1 j h9).trans (h1 j h8 h9)), fun k hk => (k2 k hk).trans ((congrFun g88 k).trans (h2 k hk)), by rw [k3, g88, h5, Int32.add_assoc]⟩
      have go : ∀ y, ok (F_X12_feed_71 a1 a2 a3 a4 a5 x6 y s1) (lpost (fun v => a1 = v.1 ∧ a2 = v.2.1 ∧ a3 = v.2.2.1 ∧ a4 = v.2.2.2.1 ∧ a5 = v.2.2.2.2.1 ∧ (∀ j, j ≠ 88 → j ≠ 95 → v.2.2.2.2.2.2.1 j = s.1 j) ∧ (∀ k, k ≠ 15 → v.2.2.2.2.2.2.1 88 k = s.1 88 k) ∧ 0 ≤ v.2.2.2.2.2.1.toInt ∧ v.2.2.2.2.2.1.toInt ≤ 20 ∧ v.2.2.2.2.2.2.1 88 15 = s.1 88 15 + v.2.2.2.2.2.1) (fun (v : Int32 × Int32 × Int32 × Int32 × Int32 × Int32 × mG) => mUp v.2.2.2.2.2.1) (mUp x6) (fun τ => RF s τ.2 ∧ τ.1 = s.1 88 15 + c8 20 ∧ τ.2.1 88 15 = s.1 88 15 + c8 20)) := by
        intro y
        refine ok_mono (fin y) ?_
        rintro _ ⟨s', rfl, g1, g2, g3⟩
        exact lp_inl ⟨rfl, rfl, rfl, rfl, rfl, g1, g2, up_0 (x := x6) h3 (by omega), up_le (x := x6) (by omega) (by omega), g3⟩ (up_t (x := x6) (by omega))
      refine ok_ite (fun _ => ?_) (fun _ => go _)
      refine ok_ite (fun _ => ?_) (fun _ => go _)
      refine ok_ite (fun _ => ?_) (fun _ => go _)
      exact ok_ite (fun _ => go _) (fun _ => go _)
  · rw [if_neg c, if_neg c]
    exact ok_some ⟨⟨hI, fun _ _ => rfl, fun _ _ => rfl⟩, rfl, rfl⟩
theorem T_X12_end {a1 : Int32} {s : mG} (hI : IM s) : ok (F_X12_end a1 s) (fun τ => RF s τ.2 ∧ τ.1 = enr a1 (s.1 88 15) ∧ τ.2.1 88 15 = enl a1 (s.1 88 15)) := by
  have i := im_tape hI
  unfold F_X12_end
  rw [F_isIn, b1_some]
  unfold enl enr
  by_cases h : wi a1 (ci 0) (s.1 88 15) = 0
  · rw [if_pos h, if_pos h, if_pos h]
    exact ok_some ⟨⟨hI, fun _ _ => rfl, fun _ _ => rfl⟩, rfl, rfl⟩
  · rw [if_neg h, if_neg h, if_neg h]
    have f := isin_f (a := a1) (by decide : (ci 0).toInt = 0) (rfl : (s.1 88 15).toInt = _) (wi_f h)
    refine ok_some ⟨⟨IM_taped hI (fun j h1 _ => mu_rowP h1) (mu_cellP (by omega)) (mu_cellP (by omega)) ?_, fun j hj => mu_rowP (by omega), fun j _ => mu_cellP (by omega)⟩, rfl, mu_sameP⟩
    rw [mu_sameP]; omega
