noncomputable section
theorem T_X12_ringMany {s : mG} (hI : IM s) : ok (F_X12_ringMany s) (fun (v : Int32) => True) := by
  have hR : RM s s := RM_refl hI
  unfold F_X12_ringMany
  unfold F_X12_ringMany_L4
  refine ok_whl (fun v => 0 ≤ (v.2).toInt) (fun v => mUp v.2) (show 0 ≤ (ci 0).toInt by rw [((by decide : (ci 0).toInt = 0) : (ci 0).toInt = 0)]; omega) (fun v hv => ?_)
  obtain ⟨x_2, x_3⟩ := v
  have hn_4 : 0 ≤ x_3.toInt := hv
  show ok (F_X12_ringMany_B4 s x_2 x_3) _
  unfold F_X12_ringMany_B4
  refine ok_ite (fun h_5 => ?_) (fun h_6 => ?_)
  · have hk_7 := im_112 hR.1
    have hc_8 := r_le (rfl : (s.1 89 112).toInt = _) (rfl : (x_3).toInt = _) h_5
    exact ok_some (lp_inr (trivial))
  · have hk_9 := im_112 hR.1
    have hc_10 := r_nle (rfl : (s.1 89 112).toInt = _) (rfl : (x_3).toInt = _) h_6
    refine ok_nn (ix_ok (r_add (by decide : (c8 15).toInt = 15) (rfl : (x_3).toInt = _) (by omega) (by omega)) (by omega) (by omega)) ?_
    refine ok_ite (fun h_11 => ?_) (fun h_12 => ?_)
    · unfold F_X12_ringMany_54
      unfold F_X12_ringMany_55
      exact ok_some (lp_inl (up_0 (x := x_3) (by omega) (by omega)) (up_t (x := x_3) (by omega)))
    · refine ok_nn (ix_ok (r_add (by decide : (c8 15).toInt = 15) (rfl : (x_3).toInt = _) (by omega) (by omega)) (by omega) (by omega)) ?_
      refine ok_ite (fun h_13 => ?_) (fun h_14 => ?_)
      · unfold F_X12_ringMany_54
        unfold F_X12_ringMany_55
        exact ok_some (lp_inl (up_0 (x := x_3) (by omega) (by omega)) (up_t (x := x_3) (by omega)))
      · refine ok_b1 (T_X12_leadsRing ⟨by omega, by omega⟩ hR.1) (fun v_15 (hv_16 : PB v_15) => ?_)
        refine ok_ite (fun h_17 => ?_) (fun h_18 => ?_)
        · have hc_19 := r_eq (rfl : (v_15).toInt = _) (by decide : (0 : Int32).toInt = 0) h_17
          unfold F_X12_ringMany_54
          unfold F_X12_ringMany_55
          exact ok_some (lp_inl (up_0 (x := x_3) (by omega) (by omega)) (up_t (x := x_3) (by omega)))
        · have hc_20 := r_ne (rfl : (v_15).toInt = _) (by decide : (0 : Int32).toInt = 0) h_18
          unfold F_X12_ringMany_55
          exact ok_some (lp_inl (up_0 (x := x_3) (by omega) (by omega)) (up_t (x := x_3) (by omega)))
theorem T_X12_swapped {s : mG} {a1 : Int32} (hI : IM s) : ok (F_X12_swapped s a1) (fun (v : Int32) => True) := by
  have hR : RM s s := RM_refl hI
  unfold F_X12_swapped
  refine ok_ite (fun h_1 => ?_) (fun h_2 => ?_)
  · have hc_3 := r_eq (rfl : (a1).toInt = _) (by decide : (ci 0).toInt = 0) h_1
    refine ok_b1 (T_X12_swappedSet hR.1) (fun v_4 _ => ?_)
    exact ok_some trivial
  · have hc_6 := r_ne (rfl : (a1).toInt = _) (by decide : (ci 0).toInt = 0) h_2
    refine ok_ite (fun h_7 => ?_) (fun h_8 => ?_)
    · have hc_9 := r_eq (rfl : (a1).toInt = _) (by decide : (ci 1).toInt = 1) h_7
      refine ok_b1 (T_X12_swappedSet hR.1) (fun v_10 _ => ?_)
      refine ok_b1 (T_X12_count hR.1) (fun v_12 _ => ?_)
      refine ok_b1 (T_X12_ringMany hR.1) (fun v_14 _ => ?_)
      exact ok_some trivial
    · have hc_16 := r_ne (rfl : (a1).toInt = _) (by decide : (ci 1).toInt = 1) h_8
      refine ok_ite (fun h_17 => ?_) (fun h_18 => ?_)
      · have hc_19 := r_eq (rfl : (a1).toInt = _) (by decide : (ci 2).toInt = 2) h_17
        refine ok_b1 (T_X12_ringMany hR.1) (fun v_20 _ => ?_)
        exact ok_some trivial
      · have hc_22 := r_ne (rfl : (a1).toInt = _) (by decide : (ci 2).toInt = 2) h_18
        exact ok_some trivial
theorem T_X12_laysFloors {s : mG} (hI : IM s) : ok (F_X12_laysFloors s) (RM s) := by
  have hR : RM s s := RM_refl hI
  unfold F_X12_laysFloors
  unfold F_X12_laysFloors_L2
  refine ok_whl (fun v => RM s v.2 ∧ 0 ≤ (v.1).toInt) (fun v => mUp v.1) ⟨hR, (show 0 ≤ (ci 0).toInt by rw [((by decide : (ci 0).toInt = 0) : (ci 0).toInt = 0)]; omega)⟩ (fun v hv => ?_)
  obtain ⟨x_2, s_3⟩ := v
  obtain ⟨rhs_4, rhn_5⟩ := hv
  have hs_4 : RM s s_3 := rhs_4
  have hn_5 : 0 ≤ x_2.toInt := rhn_5
  clear rhs_4 rhn_5
  show ok (F_X12_laysFloors_B2 x_2 s_3) _
  unfold F_X12_laysFloors_B2
  refine ok_ite (fun h_6 => ?_) (fun h_7 => ?_)
  · have hc_8 := r_le (by decide : (ci 4).toInt = 4) (rfl : (x_2).toInt = _) h_6
    refine ok_b1r ?_
    unfold F_X12_laysFloors_L22
    refine ok_whl (fun v => RM s v.2 ∧ 0 ≤ (v.1).toInt) (fun v => mUp v.1) ⟨hs_4, (show 0 ≤ (ci 0).toInt by rw [((by decide : (ci 0).toInt = 0) : (ci 0).toInt = 0)]; omega)⟩ (fun v hv => ?_)
    obtain ⟨x_13, s_14⟩ := v
    obtain ⟨rhs_15, rhn_16⟩ := hv
    have hs_15 : RM s s_14 := rhs_15
    have hn_16 : 0 ≤ x_13.toInt := rhn_16
    clear rhs_15 rhn_16
    show ok (F_X12_laysFloors_B22 x_13 s_14) _
    unfold F_X12_laysFloors_B22
    refine ok_ite (fun h_17 => ?_) (fun h_18 => ?_)
    · have hk_19 := im_112 hs_15.1
      have hk_20 := rm_k 89 112 hs_15 (by decide)
      have hc_21 := r_le (rfl : (s_14.1 89 112).toInt = _) (rfl : (x_13).toInt = _) h_17
      exact ok_some (lp_inr (hs_15))
    · have hk_22 := im_112 hs_15.1
      have hk_23 := rm_k 89 112 hs_15 (by decide)
      have hc_24 := r_nle (rfl : (s_14.1 89 112).toInt = _) (rfl : (x_13).toInt = _) h_18
      refine ok_nn (ix_ok (r_add (by decide : (c8 119).toInt = 119) (rfl : (x_13).toInt = _) (by omega) (by omega)) (by omega) (by omega)) ?_
      extract_lets +onlyGivenNames v_25
      have he_26 : v_25.toInt = (s_14.1 89 ((c8 119) + x_13).toNatClampNeg).toInt := (rfl : (s_14.1 89 ((c8 119) + x_13).toNatClampNeg).toInt = _)
      have hw_27 : 0 ≤ v_25.toInt ∧ v_25.toInt ≤ 3 := im_floor hs_15.1 (by omega) (by omega)
      clear_value v_25
      refine ok_nn (ix_ok he_26 (by omega) (by omega)) ?_
      have hk_28 := im_112 hR.1
      have hk_29 := im_1049 hs_15.1
      have hk_30 := rm_k 89 1049 hs_15 (by decide)
      have hk_31 := im_1049 hR.1
      have hk_32 := im_118 hs_15.1
      have hk_33 := rm_k 89 118 hs_15 (by decide)
      have hk_34 := im_118 hR.1
      refine ok_b2 (ok_rm2 (C := fun (v : Int64) => 0 ≤ v.toInt ∧ v.toInt ≤ 1000000) hs_15 (T_X12_sureOf ⟨by omega, by omega⟩ hs_15.1)) (fun v_35 s_36 (hq : (0 ≤ v_35.toInt ∧ v_35.toInt ≤ 1000000) ∧ RM s s_36) => ?_)
      obtain ⟨hv_38, hs_37⟩ := hq
      refine ok_nn (ix_ok he_26 (by omega) (by omega)) ?_
      extract_lets +onlyGivenNames s_39
      have hs_40 : RM s s_39 := (RM_muL hs_37)
      clear_value s_39
      exact ok_some (lp_inl ⟨hs_40, (up_0 (x := x_13) (by omega) (by omega))⟩ (up_t (x := x_13) (by omega)))
  · have hc_41 := r_nle (by decide : (ci 4).toInt = 4) (rfl : (x_2).toInt = _) h_7
    refine ok_nn (ix_ok (rfl : (x_2).toInt = _) (by omega) (by omega)) ?_
    extract_lets +onlyGivenNames s_42
    have hs_43 : RM s s_42 := (RM_muL hs_4)
    clear_value s_42
    exact ok_some (lp_inl ⟨hs_43, (up_0 (x := x_2) (by omega) (by omega))⟩ (up_t (x := x_2) (by omega)))
def DW (f : Nat → Int32) (n : Nat) : Prop := (∀ i, i < n → 0 ≤ (f i).toInt ∧ (f i).toInt < 4) ∧ ∀ i j, i < n → j < i → f i ≠ f j
def RS (n : Nat) (s s' : mG) : Prop := RM s s' ∧ ∀ i, i < n → s'.1 101 i = s.1 101 i
theorem DW_eq {f f' : Nat → Int32} {n : Nat} (h : ∀ i, i < n → f' i = f i) (k : DW f n) : DW f' n :=
  ⟨fun i hi => by rw [h i hi]; exact k.1 i hi, fun i j hi hj => by rw [h i hi, h j (by omega)]; exact k.2 i j hi hj⟩
theorem DW_add {f f' : Nat → Int32} {n : Nat} {x : Int32} (h : ∀ i, i < n → f' i = f i) (hn : f' n = x) (hx : 0 ≤ x.toInt ∧ x.toInt < 4) (k : DW f n) (hd : ∀ i, i < n → f i ≠ x) : DW f' (n + 1) := by
  refine ⟨fun i hi => ?_, fun i j hi hj => ?_⟩
  · by_cases e : i = n
    · subst e; rw [hn]; exact hx
    · rw [h i (by omega)]; exact k.1 i (by omega)
  · by_cases e : i = n
    · subst e
      rw [hn, h j hj]
      exact fun q => hd j hj q.symm
    · rw [h i (by omega), h j (by omega)]; exact k.2 i j (by omega) hj
theorem DW_lt {f : Nat → Int32} {n : Nat} {x : Int32} (k : DW f n) (hn : n ≤ 4) (hx : 0 ≤ x.toInt ∧ x.toInt < 4) (hd : ∀ i, i < n → f i ≠ x) : n < 4 := by
  refine Nat.lt_of_not_le fun q => ?_
  have e : n = 4 := by omega
  subst e
  have ne : ∀ {a b : Int32}, (0 ≤ a.toInt ∧ a.toInt < 4) → (0 ≤ b.toInt ∧ b.toInt < 4) → a ≠ b → a.toInt.toNat ≠ b.toInt.toNat := by
    intro a b ha hb hab q
    exact hab (Int32.toInt_inj.mp (by omega))
  have r0 := k.1 0 (by decide)
  have r1 := k.1 1 (by decide)
  have r2 := k.1 2 (by decide)
  have r3 := k.1 3 (by decide)
  have h := nodup_len 4 [x.toInt.toNat, (f 3).toInt.toNat, (f 2).toInt.toNat, (f 1).toInt.toNat, (f 0).toInt.toNat] (by
    simp only [List.nodup_cons, List.mem_cons, List.not_mem_nil, or_false, not_or, List.nodup_nil, and_true, not_false_eq_true]
    exact ⟨⟨ne hx r3 (fun q => hd 3 (by decide) q.symm), ne hx r2 (fun q => hd 2 (by decide) q.symm), ne hx r1 (fun q => hd 1 (by decide) q.symm), ne hx r0 (fun q => hd 0 (by decide) q.symm)⟩, ⟨ne r3 r2 (k.2 3 2 (by decide) (by decide)), ne r3 r1 (k.2 3 1 (by decide) (by decide)), ne r3 r0 (k.2 3 0 (by decide) (by decide))⟩, ⟨ne r2 r1 (k.2 2 1 (by decide) (by decide)), ne r2 r0 (k.2 2 0 (by decide) (by decide))⟩, ne r1 r0 (k.2 1 0 (by decide) (by decide))⟩) (by
    intro y hy
    simp only [List.mem_cons, List.not_mem_nil, or_false] at hy
    rcases hy with e | e | e | e | e <;> subst e <;> omega)
  exact absurd (show 5 ≤ 4 from h) (by decide)
theorem srch_120 {rec : Int32 → Int32 → Int32 → Int64 → mG → Option (mG)} {a1 a2 a3 x6 x7 y0 y1 y2 : Int32} {a4 : Int64} {s s1 : mG} {n : Nat} (hn : a1.toInt = (n : Int)) (hn4 : n ≤ 4) (hD : DW (s.1 101) n) (hrec : n < 4 → ∀ (b2 b3 : Int32) (b4 : Int64) (s' : mG), IM s' → DW (s'.1 101) (n + 1) → ok (rec (a1 + ci 1) b2 b3 b4 s') (RS (n + 1) s')) (h1 : RS n s s1) (hx : 0 ≤ x6.toInt ∧ x6.toInt < 4) (hd : x7 = 0 → ∀ i, i < n → s1.1 101 i ≠ x6) : ok (F_X12_searches_120 rec a1 a2 a3 a4 x6 x7 y0 y1 y2 s1) (fun r => ∃ s2, r = Sum.inl (a1, a2, a3, a4, (x6 + ci 1), s2) ∧ RS n s s2) := by
  unfold F_X12_searches_120 F_X12_searches_169
  refine ok_ite (fun c => ?_) (fun _ => ok_some ⟨s1, rfl, h1⟩)
  refine ok_ite (fun _ => ?_) (fun _ => ok_some ⟨s1, rfl, h1⟩)
  have hd := hd c
  have hD1 : DW (s1.1 101) n := DW_eq h1.2 hD
  have hlt := DW_lt hD1 hn4 hx hd
  refine ok_nn (ix_ok hn (by omega) (by omega)) ?_
  have e : a1.toNatClampNeg = n := r_nat hn
  rw [e]
  extract_lets +onlyGivenNames s8
  have h8 : RM s s8 := RM_mw h1.1 (by decide)
  have p8 : ∀ i, i < n → s8.1 101 i = s1.1 101 i := fun i hi => (mu_cell (by omega) : mu s1.1 101 n x6 101 i = s1.1 101 i)
  have q8 : s8.1 101 n = x6 := mu_sameP
  clear_value s8
  refine ok_nn (ix_ok (rfl : x6.toInt = _) (by omega) (by omega)) ?_
  refine ok_b1 (hrec hlt _ _ _ s8 h8.1 (DW_add p8 q8 hx hD1 hd)) (fun s11 (h11 : RS (n + 1) s8 s11) => ?_)
  exact ok_some ⟨s11, rfl, RM_tr h8 h11.1, fun i hi => by rw [h11.2 i (by omega), p8 i hi, h1.2 i hi]⟩
theorem srch_50 {rec : Int32 → Int32 → Int32 → Int64 → mG → Option (mG)} {a1 a2 a3 : Int32} {a4 : Int64} {s : mG} {n : Nat} (hn : a1.toInt = (n : Int)) (hn4 : n ≤ 4) (hD : DW (s.1 101) n) (hrec : n < 4 → ∀ (b2 b3 : Int32) (b4 : Int64) (s' : mG), IM s' → DW (s'.1 101) (n + 1) → ok (rec (a1 + ci 1) b2 b3 b4 s') (RS (n + 1) s')) (hI : IM s) : ok (F_X12_searches_50 rec a1 a2 a3 a4 s) (RS n s) := by
  unfold F_X12_searches_50 F_X12_searches_L53
  refine ok_whl (fun v => a1 = v.1 ∧ a2 = v.2.1 ∧ a3 = v.2.2.1 ∧ a4 = v.2.2.2.1 ∧ RS n s v.2.2.2.2.2 ∧ 0 ≤ v.2.2.2.2.1.toInt) (fun v => mUp v.2.2.2.2.1) ⟨rfl, rfl, rfl, rfl, ⟨RM_refl hI, fun _ _ => rfl⟩, show 0 ≤ (ci 0).toInt by decide⟩ (fun v hv => ?_)
  obtain ⟨x1, x2, x3, x4, x6, s1⟩ := v
  obtain ⟨rfl, rfl, rfl, rfl, rs1, r6⟩ := hv
  have hs1 : RS n s s1 := rs1
  have h6 : 0 ≤ x6.toInt := r6
  clear rs1 r6
  show ok (F_X12_searches_B53 rec a1 a2 a3 a4 x6 s1) _
  unfold F_X12_searches_B53
  refine ok_ite (fun _ => ok_some (lp_inr hs1)) (fun c => ?_)
  have c6 := r_nle (by decide : (ci 4).toInt = 4) (rfl : x6.toInt = _) c
  unfold F_X12_searches_L65
  refine ok_whl (fun v => a1 = v.1 ∧ a2 = v.2.1 ∧ a3 = v.2.2.1 ∧ a4 = v.2.2.2.1 ∧ x6 = v.2.2.2.2.1 ∧ RS n s v.2.2.2.2.2.2.2 ∧ 0 ≤ v.2.2.2.2.2.2.1.toInt ∧ v.2.2.2.2.2.2.1.toInt ≤ (n : Int) ∧ (v.2.2.2.2.2.1 = 0 → ∀ i : Nat, (i : Int) < v.2.2.2.2.2.2.1.toInt → v.2.2.2.2.2.2.2.1 101 i ≠ x6)) (fun v => mUp v.2.2.2.2.2.2.1) ⟨rfl, rfl, rfl, rfl, rfl, hs1, show 0 ≤ (ci 0).toInt by decide, show (ci 0).toInt ≤ (n : Int) by rw [show (ci 0).toInt = 0 by decide]; omega, fun _ i (hi : (i : Int) < (ci 0).toInt) => by rw [show (ci 0).toInt = 0 by decide] at hi; omega⟩ (fun v hv => ?_)
  obtain ⟨y1, y2, y3, y4, y6, x7, x8, s2⟩ := v
  obtain ⟨rfl, rfl, rfl, rfl, rfl, rs2, r8, r9, rd⟩ := hv
  have hs2 : RS n s s2 := rs2
  have h8 : 0 ≤ x8.toInt := r8
  have h9 : x8.toInt ≤ (n : Int) := r9
  have hd : x7 = 0 → ∀ i : Nat, (i : Int) < x8.toInt → s2.1 101 i ≠ x6 := rd
  clear rs2 r8 r9 rd
  show ok (F_X12_searches_B65 rec a1 a2 a3 a4 x6 x7 x8 s2) _
  unfold F_X12_searches_B65
  refine ok_ite (fun c8 => ?_) (fun c8 => ?_)
  · have d8 := r_le hn (rfl : x8.toInt = _) c8
    have fin : ∀ y, ok (F_X12_searches_120 rec a1 a2 a3 a4 x6 x7 (ci 3) (ci 2) y s2) (fun r => ∃ s3, r = Sum.inl (a1, a2, a3, a4, (x6 + ci 1), s3) ∧ RS n s s3) := fun y => srch_120 hn hn4 hD hrec hs2 ⟨h6, c6⟩ (fun q i hi => hd q i (by omega))
    refine ok_ite (fun _ => ?_) (fun _ => ?_)
    · refine ok_b1r (ok_mono (fin _) ?_)
      rintro _ ⟨s3, rfl, h3⟩
      exact lp_inl ⟨rfl, rfl, rfl, rfl, h3, up_0 (x := x6) h6 (by omega)⟩ (up_t (x := x6) (by omega))
    · refine ok_b1r (ok_mono (fin _) ?_)
      rintro _ ⟨s3, rfl, h3⟩
      exact lp_inl ⟨rfl, rfl, rfl, rfl, h3, up_0 (x := x6) h6 (by omega)⟩ (up_t (x := x6) (by omega))
  · have d8 := r_nle hn (rfl : x8.toInt = _) c8
    have one : ¬ ci 1 = 0 := by decide
    refine ok_ite (fun c7 => ?_) (fun c7 => ?_)
    · refine ok_nn (ix_ok (rfl : x8.toInt = _) (by omega) (by omega)) ?_
      refine ok_ite (fun q => ?_) (fun q => ?_)
      · unfold F_X12_searches_88 F_X12_searches_93
        exact ok_some (lp_inl ⟨rfl, rfl, rfl, rfl, rfl, hs2, up_0 (x := x8) h8 (by omega), up_le (x := x8) (by omega) (by omega), fun w => absurd w one⟩ (up_t (x := x8) (by omega)))
      · unfold F_X12_searches_93
        have nx : ∀ i : Nat, (i : Int) < (x8 + ci 1).toInt → s2.1 101 i ≠ x6 := by
          intro i hi
          rw [t_up (by omega)] at hi
          by_cases e : i = x8.toInt.toNat
          · rw [e]; exact q
          · exact hd c7 i (by omega)
        exact ok_some (lp_inl ⟨rfl, rfl, rfl, rfl, rfl, hs2, up_0 (x := x8) h8 (by omega), up_le (x := x8) (by omega) (by omega), fun _ => nx⟩ (up_t (x := x8) (by omega)))
    · unfold F_X12_searches_88 F_X12_searches_93
      exact ok_some (lp_inl ⟨rfl, rfl, rfl, rfl, rfl, hs2, up_0 (x := x8) h8 (by omega), up_le (x := x8) (by omega) (by omega), fun w => absurd w one⟩ (up_t (x := x8) (by omega)))
theorem T_X12_searches {rec : Int32 → Int32 → Int32 → Int64 → mG → Option (mG)} {a1 a2 a3 : Int32} {a4 : Int64} {s : mG} {n : Nat} (hn : a1.toInt = (n : Int)) (hn4 : n ≤ 4) (hD : DW (s.1 101) n) (hrec : n < 4 → ∀ (b2 b3 : Int32) (b4 : Int64) (s' : mG), IM s' → DW (s'.1 101) (n + 1) → ok (rec (a1 + ci 1) b2 b3 b4 s') (RS (n + 1) s')) (hI : IM s) : ok (F_X12_searches rec a1 a2 a3 a4 s) (RS n s) := by
  unfold F_X12_searches
  refine ok_ite (fun _ => srch_50 hn hn4 hD hrec hI) (fun _ => ?_)
  extract_lets +onlyGivenNames s15
  have h15 : RS n s s15 := ⟨RM_muL (RM_refl hI), fun _ _ => rfl⟩
  clear_value s15
  extract_lets +onlyGivenNames s16
  have h16 : RS n s s16 := ⟨RM_mu h15.1 (by decide), fun i hi => (h15.2 i hi)⟩
  clear_value s16
  unfold F_X12_searches_L24
  refine ok_whl (fun v => a1 = v.1 ∧ a2 = v.2.1 ∧ a3 = v.2.2.1 ∧ a4 = v.2.2.2.1 ∧ RS n s v.2.2.2.2.2 ∧ 0 ≤ v.2.2.2.2.1.toInt) (fun v => mUp v.2.2.2.2.1) ⟨rfl, rfl, rfl, rfl, h16, show 0 ≤ (ci 0).toInt by decide⟩ (fun v hv => ?_)
  obtain ⟨x1, x2, x3, x4, x6, s1⟩ := v
  obtain ⟨rfl, rfl, rfl, rfl, rs1, r6⟩ := hv
  have hs1 : RS n s s1 := rs1
  have h6 : 0 ≤ x6.toInt := r6
  clear rs1 r6
  show ok (F_X12_searches_B24 rec a1 a2 a3 a4 x6 s1) _
  unfold F_X12_searches_B24
  refine ok_ite (fun _ => ?_) (fun c => ?_)
  · refine ok_b1r (ok_mono (srch_50 hn hn4 (DW_eq hs1.2 hD) hrec hs1.1.1) (fun s3 h3 => ?_))
    exact ⟨RM_tr hs1.1 h3.1, fun i hi => (h3.2 i hi).trans (hs1.2 i hi)⟩
  · have c6 := r_nle hn (rfl : x6.toInt = _) c
    refine ok_nn (ix_ok (rfl : x6.toInt = _) (by omega) (by omega)) ?_
    refine ok_nn (ix_ok (rfl : x6.toInt = _) (by omega) (by omega)) ?_
    extract_lets +onlyGivenNames s20
    have h20 : RS n s s20 := ⟨RM_mw hs1.1 (by decide), fun i hi => (congrFun (mu_row (by decide) : mu s1.1 102 x6.toNatClampNeg (s1.1 101 x6.toNatClampNeg) 101 = s1.1 101) i).trans (hs1.2 i hi)⟩
    clear_value s20
    exact ok_some (lp_inl ⟨rfl, rfl, rfl, rfl, h20, up_0 (x := x6) h6 (by omega)⟩ (up_t (x := x6) (by omega)))
theorem TQ_X12 : ∀ (m n : Nat) (a1 : Int32), a1.toInt = (n : Int) → n ≤ 4 → 5 ≤ n + m → ∀ (a2 a3 : Int32) (a4 : Int64) (s : mG), IM s → DW (s.1 101) n → ok (Q_X12_searches m a1 a2 a3 a4 s) (RS n s) := by
  intro m
  induction m with
  | zero => intro n a1 h1 h2 h3; omega
  | succ m ih =>
    intro n a1 h1 h2 h3 a2 a3 a4 s hI hD
    show ok (F_X12_searches (Q_X12_searches m) a1 a2 a3 a4 s) (RS n s)
    refine T_X12_searches h1 h2 hD (fun h b2 b3 b4 s' hI' hD' => ?_) hI
    exact ih (n + 1) (a1 + ci 1) (by rw [t_up (by omega), h1]; omega) (by omega) (by omega) b2 b3 b4 s' hI' hD'
theorem T_fire_searches {x1 : Int32} {s : mG} (hI : IM s) : ok (F_X12_searches R_X12_searches (ci 0) (ci 0) x1 (cz 0) s) (RM s) := by
  refine ok_mono (T_X12_searches (n := 0) (by decide) (by decide) ⟨fun i hi => absurd hi (Nat.not_lt_zero i), fun i j hi => absurd hi (Nat.not_lt_zero i)⟩ (fun _ b2 b3 b4 s' h1 h2 => ?_) hI) (fun _ h => h.1)
  exact TQ_X12 5 1 _ (by decide) (by decide) (by decide) b2 b3 b4 s' h1 h2
end
