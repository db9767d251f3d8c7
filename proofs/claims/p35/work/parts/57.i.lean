/-! 57.i -/
section
noncomputable section
theorem T_X12_count {s : mG} {a1 : Int32} (hI : IM s) : ok (F_X12_count s a1) (fun (v : Int32) => True) := by
  have hR : RM s s := RM_refl hI
  unfold F_X12_count
  unfold F_X12_count_L4
  refine ok_whl (fun v => a1 = v.1 ∧ 0 ≤ (v.2.2).toInt) (fun v => mUp v.2.2) ⟨rfl, (show 0 ≤ (ci 0).toInt by rw [((by decide : (ci 0).toInt = 0) : (ci 0).toInt = 0)]; omega)⟩ (fun v hv => ?_)
  obtain ⟨x_2, x_3, x_4⟩ := v
  obtain ⟨rfl, rhn_5⟩ := hv
  have hn_5 : 0 ≤ x_4.toInt := rhn_5
  clear rhn_5
  show ok (F_X12_count_B4 s a1 x_3 x_4) _
  unfold F_X12_count_B4
  refine ok_ite (fun h_6 => ?_) (fun h_7 => ?_)
  · have hc_8 := r_le (by decide : (c8 12).toInt = 12) (rfl : (x_4).toInt = _) h_6
    exact ok_some (lp_inr (trivial))
  · have hc_9 := r_nle (by decide : (c8 12).toInt = 12) (rfl : (x_4).toInt = _) h_7
    extract_lets +onlyGivenNames v_10
    clear_value v_10
    exact ok_some (lp_inl ⟨rfl, (up_0 (x := x_4) (by omega) (by omega))⟩ (up_t (x := x_4) (by omega)))
theorem T_X12_done {s : mG} {a1 : Int32} (hI : IM s) : ok (F_X12_done s a1) (fun (v : Int32) => True) := by
  have hR : RM s s := RM_refl hI
  unfold F_X12_done
  refine ok_b1 (T_X12_isIn hR.1) (fun v_1 (hv_2 : QI v_1 a1 (ci 0) (ci 1)) => ?_)
  refine ok_ite (fun h_3 => ?_) (fun h_4 => ?_)
  · have hc_5 := r_eq (rfl : (v_1).toInt = _) (by decide : (0 : Int32).toInt = 0) h_3
    exact ok_some trivial
  · have hc_6 := r_ne (rfl : (v_1).toInt = _) (by decide : (0 : Int32).toInt = 0) h_4
    have hf_7 := isin_f (a := a1) (by decide : (ci 0).toInt = 0) (by decide : (ci 1).toInt = 1) (hv_2.2 h_4)
    unfold F_X12_done_L15
    refine ok_whl (fun v => a1 = v.1 ∧ 0 ≤ (v.2.2).toInt) (fun v => mUp v.2.2) ⟨rfl, (show 0 ≤ (ci 1).toInt by rw [((by decide : (ci 1).toInt = 1) : (ci 1).toInt = 1)]; omega)⟩ (fun v hv => ?_)
    obtain ⟨x_14, x_15, x_16⟩ := v
    obtain ⟨rfl, rhn_17⟩ := hv
    have hn_17 : 0 ≤ x_16.toInt := rhn_17
    clear rhn_17
    show ok (F_X12_done_B15 s a1 x_15 x_16) _
    unfold F_X12_done_B15
    refine ok_ite (fun h_18 => ?_) (fun h_19 => ?_)
    · refine ok_ite (fun h_20 => ?_) (fun h_21 => ?_)
      · have hc_22 := r_eq (rfl : (a1).toInt = _) (by decide : (0 : Int32).toInt = 0) h_20
        refine ok_b1 (T_X12_worthOfSet hR.1) (fun v_23 _ => ?_)
        exact ok_some (lp_inr (trivial))
      · have hc_25 := r_ne (rfl : (a1).toInt = _) (by decide : (0 : Int32).toInt = 0) h_21
        exact ok_some (lp_inr (trivial))
    · have hc_26 := ge_t h_19
      refine ok_b1 (T_X12_canDo hR.1) (fun v_27 (hv_28 : PB v_27) => ?_)
      refine ok_ite (fun h_29 => ?_) (fun h_30 => ?_)
      · have hc_31 := r_eq (rfl : (v_27).toInt = _) (by decide : (0 : Int32).toInt = 0) h_29
        unfold F_X12_done_75
        exact ok_some (lp_inl ⟨rfl, (up_0 (x := x_16) (by omega) (by omega))⟩ (up_t (x := x_16) (by omega)))
      · have hc_32 := r_ne (rfl : (v_27).toInt = _) (by decide : (0 : Int32).toInt = 0) h_30
        refine ok_b1 (T_X12_worthOfSet hR.1) (fun v_33 _ => ?_)
        refine ok_b1 (T_X12_worthOfSet hR.1) (fun v_35 _ => ?_)
        refine ok_ite (fun h_37 => ?_) (fun h_38 => ?_)
        · unfold F_X12_done_73
          unfold F_X12_done_75
          exact ok_some (lp_inl ⟨rfl, (up_0 (x := x_16) (by omega) (by omega))⟩ (up_t (x := x_16) (by omega)))
        · refine ok_ite (fun h_39 => ?_) (fun h_40 => ?_)
          · refine ok_b1 (T_X12_count hR.1) (fun v_41 _ => ?_)
            refine ok_b1 (T_X12_count hR.1) (fun v_43 _ => ?_)
            refine ok_ite (fun h_45 => ?_) (fun h_46 => ?_)
            · have hc_47 := r_le (rfl : (v_43).toInt = _) (rfl : (v_41).toInt = _) h_45
              unfold F_X12_done_75
              exact ok_some (lp_inl ⟨rfl, (up_0 (x := x_16) (by omega) (by omega))⟩ (up_t (x := x_16) (by omega)))
            · have hc_48 := ge_t h_46
              have hc_49 := r_nle (rfl : (v_43).toInt = _) (rfl : (v_41).toInt = _) h_46
              unfold F_X12_done_73
              unfold F_X12_done_75
              exact ok_some (lp_inl ⟨rfl, (up_0 (x := x_16) (by omega) (by omega))⟩ (up_t (x := x_16) (by omega)))
          · unfold F_X12_done_75
            exact ok_some (lp_inl ⟨rfl, (up_0 (x := x_16) (by omega) (by omega))⟩ (up_t (x := x_16) (by omega)))
theorem T_X12_swappedSet {s : mG} (hI : IM s) : ok (F_X12_swappedSet s) (fun (v : Int32) => True) := by
  have hR : RM s s := RM_refl hI
  unfold F_X12_swappedSet
  unfold F_X12_swappedSet_L4
  refine ok_whl (fun v => 0 ≤ (v.2).toInt) (fun v => mUp v.2) (show 0 ≤ (ci 0).toInt by rw [((by decide : (ci 0).toInt = 0) : (ci 0).toInt = 0)]; omega) (fun v hv => ?_)
  obtain ⟨x_1, x_2⟩ := v
  have hn_3 : 0 ≤ x_2.toInt := hv
  show ok (F_X12_swappedSet_B4 s x_1 x_2) _
  unfold F_X12_swappedSet_B4
  refine ok_ite (fun h_4 => ?_) (fun h_5 => ?_)
  · have hk_6 := im_112 hR.1
    have hc_7 := r_le (rfl : (s.1 89 112).toInt = _) (rfl : (x_2).toInt = _) h_4
    exact ok_some (lp_inr (trivial))
  · have hk_8 := im_112 hR.1
    have hc_9 := r_nle (rfl : (s.1 89 112).toInt = _) (rfl : (x_2).toInt = _) h_5
    refine ok_nn (ix_ok (r_add (by decide : (c8 15).toInt = 15) (rfl : (x_2).toInt = _) (by omega) (by omega)) (by omega) (by omega)) ?_
    refine ok_ite (fun h_10 => ?_) (fun h_11 => ?_)
    · unfold F_X12_swappedSet_56
      unfold F_X12_swappedSet_57
      exact ok_some (lp_inl (up_0 (x := x_2) (by omega) (by omega)) (up_t (x := x_2) (by omega)))
    · refine ok_nn (ix_ok (r_add (by decide : (c8 15).toInt = 15) (rfl : (x_2).toInt = _) (by omega) (by omega)) (by omega) (by omega)) ?_
      refine ok_ite (fun h_12 => ?_) (fun h_13 => ?_)
      · unfold F_X12_swappedSet_56
        unfold F_X12_swappedSet_57
        exact ok_some (lp_inl (up_0 (x := x_2) (by omega) (by omega)) (up_t (x := x_2) (by omega)))
      · refine ok_nn (ix_ok (r_add (by decide : (c8 15).toInt = 15) (rfl : (x_2).toInt = _) (by omega) (by omega)) (by omega) (by omega)) ?_
        unfold F_X12_swappedSet_57
        exact ok_some (lp_inl (up_0 (x := x_2) (by omega) (by omega)) (up_t (x := x_2) (by omega)))
def Chn (f : Nat → Int32) (first : Nat) : List Nat → Prop
  | [] => False
  | [x] => x = first
  | x :: y :: l => f (15 + y) = cn x ∧ Chn f first (y :: l)
theorem chn_succ {f : Nat → Int32} {first g : Nat} : ∀ (l : List Nat) (h : Nat), Chn f first (h :: l) → g ∈ h :: l → g ≠ first → ∃ b, b ∈ l ∧ f (15 + b) = cn g := by
  intro l
  induction l with
  | nil =>
    intro h hc hm hne
    have e1 : h = first := hc
    have e2 : g = h := by simpa using hm
    exact absurd (e2.trans e1) hne
  | cons y l ih =>
    intro h hc hm hne
    rcases List.mem_cons.mp hm with e | e
    · subst e
      exact ⟨y, List.mem_cons_self, hc.1⟩
    · obtain ⟨b, hb, hf⟩ := ih y hc.2 e hne
      exact ⟨b, List.mem_cons_of_mem _ hb, hf⟩
theorem nodup_len : ∀ (n : Nat) (l : List Nat), l.Nodup → (∀ x, x ∈ l → x < n) → l.length ≤ n := by
  intro n
  induction n with
  | zero =>
    intro l _ h
    cases l with
    | nil => exact Nat.le_refl _
    | cons x l => exact absurd (h x List.mem_cons_self) (by omega)
  | succ n ih =>
    intro l hl h
    by_cases hm : n ∈ l
    · have h1 := ih (l.erase n) (hl.erase n) (fun x hx => by
        have hx2 := (List.Nodup.mem_erase_iff hl).mp hx
        have := h x hx2.2
        have := hx2.1
        omega)
      rw [List.length_erase_of_mem hm] at h1
      omega
    · have h1 := ih l hl (fun x hx => by
        have := h x hx
        have hne : x ≠ n := fun e => hm (e ▸ hx)
        omega)
      omega
def wpost {σ ρ : Type} (body : σ → Option (σ ⊕ ρ)) (Q : ρ → Prop) : σ ⊕ ρ → Prop
  | .inl v => ok (whl body v) Q
  | .inr a => Q a
theorem ok_step {σ ρ : Type} {body : σ → Option (σ ⊕ ρ)} {v : σ} {Q : ρ → Prop} (h : ok (body v) (wpost body Q)) : ok (whl body v) Q := by
  obtain ⟨a, h1, h2⟩ := h
  rw [whl_eq, h1]
  cases a with
  | inl v' => exact h2
  | inr a => exact ⟨a, rfl, h2⟩
theorem leads_tot {s : mG} {a1 : Int32} (h0 : 0 ≤ a1.toInt ∧ a1.toInt < (s.1 89 112).toInt) (hI : IM s) : ∀ (n : Nat) (g : Int32) (h : Nat) (l : List Nat), n + (h :: l).length = 13 → Chn (s.1 89) a1.toInt.toNat (h :: l) → (h :: l).Nodup → (∀ x, x ∈ h :: l → (x : Int) < (s.1 89 112).toInt) → s.1 89 (15 + h) = g → ok (whl (fun (v : (Int32 × Int32)) => F_X12_leadsRing_B10 s v.1 v.2) (a1, g)) PB := by
  have i := im_112 hI
  intro n
  induction n with
  | zero =>
    intro g h l hn hc hd hlt hg
    have := nodup_len 12 (h :: l) hd (fun x hx => by have := hlt x hx; omega)
    omega
  | succ n ih =>
    intro g h l hn hc hd hlt hg
    have hh := hlt h List.mem_cons_self
    have hr := hI.2.1.2.1 h (by omega) hh
    rw [hg] at hr
    refine ok_step ?_
    show ok (F_X12_leadsRing_B10 s a1 g) _
    unfold F_X12_leadsRing_B10 F_X12_leadsRing_33
    have fin : ok (b1 (if g = a1 then some (ci 1) else some (ci 0)) fun τ => some (Sum.inr τ)) (wpost (fun (v : (Int32 × Int32)) => F_X12_leadsRing_B10 s v.1 v.2) PB) := by
      by_cases q : g = a1
      · rw [if_pos q]; exact ok_some pb1
      · rw [if_neg q]; exact ok_some pb0
    refine ok_ite (fun _ => fin) (fun c1 => ?_)
    refine ok_ite (fun _ => fin) (fun c2 => ?_)
    have g1 := r_ne (rfl : g.toInt = _) (by decide : (ci (-1)).toInt = -1) c1
    have g2 := r_nle (rfl : g.toInt = _) (rfl : a1.toInt = _) c2
    refine ok_nn (ix_ok (r_add (by decide : (c8 15).toInt = 15) (rfl : g.toInt = _) (by omega) (by omega)) (by omega) (by omega)) ?_
    rw [r_ix (b := 15) (by decide) (by omega) (by omega) (by decide)]
    have gc : g = cn g.toInt.toNat := Int32.toInt_inj.mp (by rw [t_cn (by omega)]; omega)
    have hnot : g.toInt.toNat ∉ h :: l := by
      intro hm
      obtain ⟨b, hb, hf⟩ := chn_succ l h hc hm (by omega)
      have hb2 := hlt b (List.mem_cons_of_mem _ hb)
      have e := hI.2.1.2.2 h b (by omega) (by omega) hh hb2 (by rw [hg, hf]; exact gc) (by rw [hg]; exact c1)
      subst e
      exact (List.nodup_cons.mp hd).1 hb
    refine ok_some ?_
    show ok (whl _ (a1, s.1 89 (15 + g.toInt.toNat))) PB
    refine ih _ g.toInt.toNat (h :: l) (by simp only [List.length_cons] at hn ⊢; omega) ⟨by rw [hg]; exact gc, hc⟩ (List.nodup_cons.mpr ⟨hnot, hd⟩) (fun x hx => ?_) rfl
    rcases List.mem_cons.mp hx with e | e
    · subst e; omega
    · exact hlt x e
theorem T_X12_leadsRing {s : mG} {a1 : Int32} (h_a1 : 0 ≤ a1.toInt ∧ a1.toInt < (s.1 89 112).toInt) (hI : IM s) : ok (F_X12_leadsRing s a1) PB := by
  have i := im_112 hI
  unfold F_X12_leadsRing F_X12_leadsRing_L10
  refine ok_nn (ix_ok (r_add (by decide : (c8 15).toInt = 15) (rfl : a1.toInt = _) (by omega) (by omega)) (by omega) (by omega)) ?_
  rw [r_ix (b := 15) (by decide) h_a1.1 (by omega) (by decide)]
  exact leads_tot h_a1 hI 12 _ a1.toInt.toNat [] rfl rfl (List.nodup_cons.mpr ⟨List.not_mem_nil, List.nodup_nil⟩) (fun x hx => by
    have e : x = a1.toInt.toNat := by simpa using hx
    subst e; omega) rfl
theorem T_X12_ring {s : mG} {a1 : Int32} (hI : IM s) : ok (F_X12_ring s a1) (fun (v : Int32) => True) := by
  have hR : RM s s := RM_refl hI
  unfold F_X12_ring
  refine ok_b1 (T_X12_isGuest hR.1) (fun v_1 (hv_2 : QG v_1 a1 (s.1 89 112)) => ?_)
  refine ok_ite (fun h_3 => ?_) (fun h_4 => ?_)
  · have hc_5 := r_eq (rfl : (v_1).toInt = _) (by decide : (0 : Int32).toInt = 0) h_3
    exact ok_some trivial
  · have hc_6 := r_ne (rfl : (v_1).toInt = _) (by decide : (0 : Int32).toInt = 0) h_4
    have hk_7 := im_112 hR.1
    have hk_8 := im_115 hR.1
    have hf_9 := hv_2.2 h_4
    unfold F_X12_ring_L14
    refine ok_whl (fun v => a1 = v.1 ∧ 0 ≤ (v.2.1).toInt ∧ (-1 ≤ (v.2.2).toInt ∧ (v.2.2).toInt < (s.1 89 112).toInt)) (fun v => mUp v.2.1) ⟨rfl, (show 0 ≤ (ci 0).toInt by rw [((by decide : (ci 0).toInt = 0) : (ci 0).toInt = 0)]; omega), (show -1 ≤ (a1).toInt ∧ (a1).toInt < (s.1 89 112).toInt from ⟨by omega, by omega⟩)⟩ (fun v hv => ?_)
    obtain ⟨x_12, x_13, x_14⟩ := v
    obtain ⟨rfl, rhn_15, rhn_16⟩ := hv
    have hn_15 : 0 ≤ x_13.toInt := rhn_15
    have hn_16 : -1 ≤ (x_14).toInt ∧ (x_14).toInt < (s.1 89 112).toInt := rhn_16
    clear rhn_15 rhn_16
    show ok (F_X12_ring_B14 s a1 x_13 x_14) _
    unfold F_X12_ring_B14
    refine ok_ite (fun h_17 => ?_) (fun h_18 => ?_)
    · have hc_19 := r_eq (rfl : (x_14).toInt = _) (by decide : (ci (-1)).toInt = (-1)) h_17
      refine ok_b1r ?_
      unfold F_X12_ring_55
      refine ok_ite (fun h_20 => ?_) (fun h_21 => ?_)
      · have hc_22 := r_eq (rfl : (x_14).toInt = _) (rfl : (a1).toInt = _) h_20
        refine ok_ite (fun h_23 => ?_) (fun h_24 => ?_)
        · have hc_25 := r_le (rfl : (x_13).toInt = _) (by decide : (ci 1).toInt = 1) h_23
          unfold F_X12_ring_69
          exact ok_some trivial
        · have hc_26 := r_nle (rfl : (x_13).toInt = _) (by decide : (ci 1).toInt = 1) h_24
          exact ok_some trivial
      · have hc_27 := r_ne (rfl : (x_14).toInt = _) (rfl : (a1).toInt = _) h_21
        unfold F_X12_ring_69
        exact ok_some trivial
    · have hc_28 := r_ne (rfl : (x_14).toInt = _) (by decide : (ci (-1)).toInt = (-1)) h_18
      refine ok_ite (fun h_29 => ?_) (fun h_30 => ?_)
      · have hc_31 := r_lt (rfl : (s.1 89 112).toInt = _) (rfl : (x_13).toInt = _) h_29
        refine ok_b1r ?_
        unfold F_X12_ring_55
        refine ok_ite (fun h_32 => ?_) (fun h_33 => ?_)
        · have hc_34 := r_eq (rfl : (x_14).toInt = _) (rfl : (a1).toInt = _) h_32
          refine ok_ite (fun h_35 => ?_) (fun h_36 => ?_)
          · have hc_37 := r_le (rfl : (x_13).toInt = _) (by decide : (ci 1).toInt = 1) h_35
            unfold F_X12_ring_69
            exact ok_some trivial
          · have hc_38 := r_nle (rfl : (x_13).toInt = _) (by decide : (ci 1).toInt = 1) h_36
            exact ok_some trivial
        · have hc_39 := r_ne (rfl : (x_14).toInt = _) (rfl : (a1).toInt = _) h_33
          unfold F_X12_ring_69
          exact ok_some trivial
      · have hc_40 := r_nlt (rfl : (s.1 89 112).toInt = _) (rfl : (x_13).toInt = _) h_30
        refine ok_ite (fun h_41 => ?_) (fun h_42 => ?_)
        · have hc_43 := r_eq (rfl : (x_13).toInt = _) (by decide : (0 : Int32).toInt = 0) h_41
          unfold F_X12_ring_39
          refine ok_nn (ix_ok (r_add (by decide : (c8 15).toInt = 15) (rfl : (x_14).toInt = _) (by omega) (by omega)) (by omega) (by omega)) ?_
          extract_lets +onlyGivenNames v_44
          have hw_45 : -1 ≤ v_44.toInt ∧ v_44.toInt < (s.1 89 112).toInt := im_key hI (by omega) (by omega)
          clear_value v_44
          exact ok_some (lp_inl ⟨rfl, (up_0 (x := x_13) (by omega) (by omega)), (show -1 ≤ (v_44).toInt ∧ (v_44).toInt < (s.1 89 112).toInt from ⟨by omega, by omega⟩)⟩ (up_t (x := x_13) (by omega)))
        · have hc_46 := r_ne (rfl : (x_13).toInt = _) (by decide : (0 : Int32).toInt = 0) h_42
          refine ok_ite (fun h_47 => ?_) (fun h_48 => ?_)
          · have hc_49 := r_eq (rfl : (x_14).toInt = _) (rfl : (a1).toInt = _) h_47
            refine ok_b1r ?_
            unfold F_X12_ring_55
            refine ok_ite (fun h_50 => ?_) (fun h_51 => ?_)
            · have hc_52 := r_eq (rfl : (x_14).toInt = _) (rfl : (a1).toInt = _) h_50
              refine ok_ite (fun h_53 => ?_) (fun h_54 => ?_)
              · have hc_55 := r_le (rfl : (x_13).toInt = _) (by decide : (ci 1).toInt = 1) h_53
                unfold F_X12_ring_69
                exact ok_some trivial
              · have hc_56 := r_nle (rfl : (x_13).toInt = _) (by decide : (ci 1).toInt = 1) h_54
                exact ok_some trivial
            · have hc_57 := r_ne (rfl : (x_14).toInt = _) (rfl : (a1).toInt = _) h_51
              unfold F_X12_ring_69
              exact ok_some trivial
          · have hc_58 := r_ne (rfl : (x_14).toInt = _) (rfl : (a1).toInt = _) h_48
            unfold F_X12_ring_39
            refine ok_nn (ix_ok (r_add (by decide : (c8 15).toInt = 15) (rfl : (x_14).toInt = _) (by omega) (by omega)) (by omega) (by omega)) ?_
            extract_lets +onlyGivenNames v_59
            have hw_60 : -1 ≤ v_59.toInt ∧ v_59.toInt < (s.1 89 112).toInt := im_key hI (by omega) (by omega)
            clear_value v_59
            exact ok_some (lp_inl ⟨rfl, (up_0 (x := x_13) (by omega) (by omega)), (show -1 ≤ (v_59).toInt ∧ (v_59).toInt < (s.1 89 112).toInt from ⟨by omega, by omega⟩)⟩ (up_t (x := x_13) (by omega)))
end
end
/-! 57.j -/
section
noncomputable section
theorem T_X12_ringMany {s : mG} (hI : IM s) : ok (F_X12_ringMany s) (fun (v : Int32) => True) := by
  have hR : RM s s := RM_refl hI
  unfold F_X12_ringMany
  unfold F_X12_ringMany_L4
  refine ok_whl (fun v => 0 ≤ (v.2).toInt) (fun v => mUp v.2) (show 0 ≤ (ci 0).toInt by rw [((by decide : (ci 0).toInt = 0) : (ci 0).toInt = 0)]; omega) (fun v hv => ?_)
  obtain ⟨x_2, x_3⟩ := v
  have hn_4 : 0 ≤ x_3.toInt := hv
  show ok (F_X12_ringMany_B4 s x_2 x_3) _
  unfold F_X12_ringMany_B4
  refine ok_ite (fun h_5 => ?_) (fun h_6 => ?_)
  · have hk_7 := im_112 hR.1
    have hc_8 := r_le (rfl : (s.1 89 112).toInt = _) (rfl : (x_3).toInt = _) h_5
    exact ok_some (lp_inr (trivial))
  · have hk_9 := im_112 hR.1
    have hc_10 := r_nle (rfl : (s.1 89 112).toInt = _) (rfl : (x_3).toInt = _) h_6
    refine ok_nn (ix_ok (r_add (by decide : (c8 15).toInt = 15) (rfl : (x_3).toInt = _) (by omega) (by omega)) (by omega) (by omega)) ?_
    refine ok_ite (fun h_11 => ?_) (fun h_12 => ?_)
    · unfold F_X12_ringMany_54
      unfold F_X12_ringMany_55
      exact ok_some (lp_inl (up_0 (x := x_3) (by omega) (by omega)) (up_t (x := x_3) (by omega)))
    · refine ok_nn (ix_ok (r_add (by decide : (c8 15).toInt = 15) (rfl : (x_3).toInt = _) (by omega) (by omega)) (by omega) (by omega)) ?_
      refine ok_ite (fun h_13 => ?_) (fun h_14 => ?_)
      · unfold F_X12_ringMany_54
        unfold F_X12_ringMany_55
        exact ok_some (lp_inl (up_0 (x := x_3) (by omega) (by omega)) (up_t (x := x_3) (by omega)))
      · refine ok_b1 (T_X12_leadsRing ⟨by omega, by omega⟩ hR.1) (fun v_15 (hv_16 : PB v_15) => ?_)
        refine ok_ite (fun h_17 => ?_) (fun h_18 => ?_)
        · have hc_19 := r_eq (rfl : (v_15).toInt = _) (by decide : (0 : Int32).toInt = 0) h_17
          unfold F_X12_ringMany_54
          unfold F_X12_ringMany_55
          exact ok_some (lp_inl (up_0 (x := x_3) (by omega) (by omega)) (up_t (x := x_3) (by omega)))
        · have hc_20 := r_ne (rfl : (v_15).toInt = _) (by decide : (0 : Int32).toInt = 0) h_18
          unfold F_X12_ringMany_55
          exact ok_some (lp_inl (up_0 (x := x_3) (by omega) (by omega)) (up_t (x := x_3) (by omega)))
theorem T_X12_swapped {s : mG} {a1 : Int32} (hI : IM s) : ok (F_X12_swapped s a1) (fun (v : Int32) => True) := by
  have hR : RM s s := RM_refl hI
  unfold F_X12_swapped
  refine ok_ite (fun h_1 => ?_) (fun h_2 => ?_)
  · have hc_3 := r_eq (rfl : (a1).toInt = _) (by decide : (ci 0).toInt = 0) h_1
    refine ok_b1 (T_X12_swappedSet hR.1) (fun v_4 _ => ?_)
    exact ok_some trivial
  · have hc_6 := r_ne (rfl : (a1).toInt = _) (by decide : (ci 0).toInt = 0) h_2
    refine ok_ite (fun h_7 => ?_) (fun h_8 => ?_)
    · have hc_9 := r_eq (rfl : (a1).toInt = _) (by decide : (ci 1).toInt = 1) h_7
      refine ok_b1 (T_X12_swappedSet hR.1) (fun v_10 _ => ?_)
      refine ok_b1 (T_X12_count hR.1) (fun v_12 _ => ?_)
      refine ok_b1 (T_X12_ringMany hR.1) (fun v_14 _ => ?_)
      exact ok_some trivial
    · have hc_16 := r_ne (rfl : (a1).toInt = _) (by decide : (ci 1).toInt = 1) h_8
      refine ok_ite (fun h_17 => ?_) (fun h_18 => ?_)
      · have hc_19 := r_eq (rfl : (a1).toInt = _) (by decide : (ci 2).toInt = 2) h_17
        refine ok_b1 (T_X12_ringMany hR.1) (fun v_20 _ => ?_)
        exact ok_some trivial
      · have hc_22 := r_ne (rfl : (a1).toInt = _) (by decide : (ci 2).toInt = 2) h_18
        exact ok_some trivial
theorem T_X12_laysFloors {s : mG} (hI : IM s) : ok (F_X12_laysFloors s) (RM s) := by
  have hR : RM s s := RM_refl hI
  unfold F_X12_laysFloors
  unfold F_X12_laysFloors_L2
  refine ok_whl (fun v => RM s v.2 ∧ 0 ≤ (v.1).toInt) (fun v => mUp v.1) ⟨hR, (show 0 ≤ (ci 0).toInt by rw [((by decide : (ci 0).toInt = 0) : (ci 0).toInt = 0)]; omega)⟩ (fun v hv => ?_)
  obtain ⟨x_2, s_3⟩ := v
  obtain ⟨rhs_4, rhn_5⟩ := hv
  have hs_4 : RM s s_3 := rhs_4
  have hn_5 : 0 ≤ x_2.toInt := rhn_5
  clear rhs_4 rhn_5
  show ok (F_X12_laysFloors_B2 x_2 s_3) _
  unfold F_X12_laysFloors_B2
  refine ok_ite (fun h_6 => ?_) (fun h_7 => ?_)
  · have hc_8 := r_le (by decide : (ci 4).toInt = 4) (rfl : (x_2).toInt = _) h_6
    refine ok_b1r ?_
    unfold F_X12_laysFloors_L22
    refine ok_whl (fun v => RM s v.2 ∧ 0 ≤ (v.1).toInt) (fun v => mUp v.1) ⟨hs_4, (show 0 ≤ (ci 0).toInt by rw [((by decide : (ci 0).toInt = 0) : (ci 0).toInt = 0)]; omega)⟩ (fun v hv => ?_)
    obtain ⟨x_13, s_14⟩ := v
    obtain ⟨rhs_15, rhn_16⟩ := hv
    have hs_15 : RM s s_14 := rhs_15
    have hn_16 : 0 ≤ x_13.toInt := rhn_16
    clear rhs_15 rhn_16
    show ok (F_X12_laysFloors_B22 x_13 s_14) _
    unfold F_X12_laysFloors_B22
    refine ok_ite (fun h_17 => ?_) (fun h_18 => ?_)
    · have hk_19 := im_112 hs_15.1
      have hk_20 := rm_k 89 112 hs_15 (by decide)
      have hc_21 := r_le (rfl : (s_14.1 89 112).toInt = _) (rfl : (x_13).toInt = _) h_17
      exact ok_some (lp_inr (hs_15))
    · have hk_22 := im_112 hs_15.1
      have hk_23 := rm_k 89 112 hs_15 (by decide)
      have hc_24 := r_nle (rfl : (s_14.1 89 112).toInt = _) (rfl : (x_13).toInt = _) h_18
      refine ok_nn (ix_ok (r_add (by decide : (c8 119).toInt = 119) (rfl : (x_13).toInt = _) (by omega) (by omega)) (by omega) (by omega)) ?_
      extract_lets +onlyGivenNames v_25
      have he_26 : v_25.toInt = (s_14.1 89 ((c8 119) + x_13).toNatClampNeg).toInt := (rfl : (s_14.1 89 ((c8 119) + x_13).toNatClampNeg).toInt = _)
      have hw_27 : 0 ≤ v_25.toInt ∧ v_25.toInt ≤ 3 := im_floor hs_15.1 (by omega) (by omega)
      clear_value v_25
      refine ok_nn (ix_ok he_26 (by omega) (by omega)) ?_
      have hk_28 := im_112 hR.1
      have hk_29 := im_1049 hs_15.1
      have hk_30 := rm_k 89 1049 hs_15 (by decide)
      have hk_31 := im_1049 hR.1
      have hk_32 := im_118 hs_15.1
      have hk_33 := rm_k 89 118 hs_15 (by decide)
      have hk_34 := im_118 hR.1
      refine ok_b2 (ok_rm2 (C := fun (v : Int64) => 0 ≤ v.toInt ∧ v.toInt ≤ 1000000) hs_15 (T_X12_sureOf ⟨by omega, by omega⟩ hs_15.1)) (fun v_35 s_36 (hq : (0 ≤ v_35.toInt ∧ v_35.toInt ≤ 1000000) ∧ RM s s_36) => ?_)
      obtain ⟨hv_38, hs_37⟩ := hq
      refine ok_nn (ix_ok he_26 (by omega) (by omega)) ?_
      extract_lets +onlyGivenNames s_39
      have hs_40 : RM s s_39 := (RM_muL hs_37)
      clear_value s_39
      exact ok_some (lp_inl ⟨hs_40, (up_0 (x := x_13) (by omega) (by omega))⟩ (up_t (x := x_13) (by omega)))
  · have hc_41 := r_nle (by decide : (ci 4).toInt = 4) (rfl : (x_2).toInt = _) h_7
    refine ok_nn (ix_ok (rfl : (x_2).toInt = _) (by omega) (by omega)) ?_
    extract_lets +onlyGivenNames s_42
    have hs_43 : RM s s_42 := (RM_muL hs_4)
    clear_value s_42
    exact ok_some (lp_inl ⟨hs_43, (up_0 (x := x_2) (by omega) (by omega))⟩ (up_t (x := x_2) (by omega)))
def DW (f : Nat → Int32) (n : Nat) : Prop := (∀ i, i < n → 0 ≤ (f i).toInt ∧ (f i).toInt < 4) ∧ ∀ i j, i < n → j < i → f i ≠ f j
def RS (n : Nat) (s s' : mG) : Prop := RM s s' ∧ ∀ i, i < n → s'.1 101 i = s.1 101 i
theorem DW_eq {f f' : Nat → Int32} {n : Nat} (h : ∀ i, i < n → f' i = f i) (k : DW f n) : DW f' n :=
  ⟨fun i hi => by rw [h i hi]; exact k.1 i hi, fun i j hi hj => by rw [h i hi, h j (by omega)]; exact k.2 i j hi hj⟩
theorem DW_add {f f' : Nat → Int32} {n : Nat} {x : Int32} (h : ∀ i, i < n → f' i = f i) (hn : f' n = x) (hx : 0 ≤ x.toInt ∧ x.toInt < 4) (k : DW f n) (hd : ∀ i, i < n → f i ≠ x) : DW f' (n + 1) := by
  refine ⟨fun i hi => ?_, fun i j hi hj => ?_⟩
  · by_cases e : i = n
    · subst e; rw [hn]; exact hx
    · rw [h i (by omega)]; exact k.1 i (by omega)
  · by_cases e : i = n
    · subst e
      rw [hn, h j hj]
      exact fun q => hd j hj q.symm
    · rw [h i (by omega), h j (by omega)]; exact k.2 i j (by omega) hj
theorem DW_lt {f : Nat → Int32} {n : Nat} {x : Int32} (k : DW f n) (hn : n ≤ 4) (hx : 0 ≤ x.toInt ∧ x.toInt < 4) (hd : ∀ i, i < n → f i ≠ x) : n < 4 := by
  refine Nat.lt_of_not_le fun q => ?_
  have e : n = 4 := by omega
  subst e
  have ne : ∀ {a b : Int32}, (0 ≤ a.toInt ∧ a.toInt < 4) → (0 ≤ b.toInt ∧ b.toInt < 4) → a ≠ b → a.toInt.toNat ≠ b.toInt.toNat := by
    intro a b ha hb hab q
    exact hab (Int32.toInt_inj.mp (by omega))
  have r0 := k.1 0 (by decide)
  have r1 := k.1 1 (by decide)
  have r2 := k.1 2 (by decide)
  have r3 := k.1 3 (by decide)
  have h := nodup_len 4 [x.toInt.toNat, (f 3).toInt.toNat, (f 2).toInt.toNat, (f 1).toInt.toNat, (f 0).toInt.toNat] (by
    simp only [List.nodup_cons, List.mem_cons, List.not_mem_nil, or_false, not_or, List.nodup_nil, and_true, not_false_eq_true]
    exact ⟨⟨ne hx r3 (fun q => hd 3 (by decide) q.symm), ne hx r2 (fun q => hd 2 (by decide) q.symm), ne hx r1 (fun q => hd 1 (by decide) q.symm), ne hx r0 (fun q => hd 0 (by decide) q.symm)⟩, ⟨ne r3 r2 (k.2 3 2 (by decide) (by decide)), ne r3 r1 (k.2 3 1 (by decide) (by decide)), ne r3 r0 (k.2 3 0 (by decide) (by decide))⟩, ⟨ne r2 r1 (k.2 2 1 (by decide) (by decide)), ne r2 r0 (k.2 2 0 (by decide) (by decide))⟩, ne r1 r0 (k.2 1 0 (by decide) (by decide))⟩) (by
    intro y hy
    simp only [List.mem_cons, List.not_mem_nil, or_false] at hy
    rcases hy with e | e | e | e | e <;> subst e <;> omega)
  exact absurd (show 5 ≤ 4 from h) (by decide)
theorem srch_120 {rec : Int32 → Int32 → Int32 → Int64 → mG → Option (mG)} {a1 a2 a3 x6 x7 y0 y1 y2 : Int32} {a4 : Int64} {s s1 : mG} {n : Nat} (hn : a1.toInt = (n : Int)) (hn4 : n ≤ 4) (hD : DW (s.1 101) n) (hrec : n < 4 → ∀ (b2 b3 : Int32) (b4 : Int64) (s' : mG), IM s' → DW (s'.1 101) (n + 1) → ok (rec (a1 + ci 1) b2 b3 b4 s') (RS (n + 1) s')) (h1 : RS n s s1) (hx : 0 ≤ x6.toInt ∧ x6.toInt < 4) (hd : x7 = 0 → ∀ i, i < n → s1.1 101 i ≠ x6) : ok (F_X12_searches_120 rec a1 a2 a3 a4 x6 x7 y0 y1 y2 s1) (fun r => ∃ s2, r = Sum.inl (a1, a2, a3, a4, (x6 + ci 1), s2) ∧ RS n s s2) := by
  unfold F_X12_searches_120 F_X12_searches_169
  refine ok_ite (fun c => ?_) (fun _ => ok_some ⟨s1, rfl, h1⟩)
  refine ok_ite (fun _ => ?_) (fun _ => ok_some ⟨s1, rfl, h1⟩)
  have hd := hd c
  have hD1 : DW (s1.1 101) n := DW_eq h1.2 hD
  have hlt := DW_lt hD1 hn4 hx hd
  refine ok_nn (ix_ok hn (by omega) (by omega)) ?_
  have e : a1.toNatClampNeg = n := r_nat hn
  rw [e]
  extract_lets +onlyGivenNames s8
  have h8 : RM s s8 := RM_mw h1.1 (by decide)
  have p8 : ∀ i, i < n → s8.1 101 i = s1.1 101 i := fun i hi => (mu_cell (by omega) : mu s1.1 101 n x6 101 i = s1.1 101 i)
  have q8 : s8.1 101 n = x6 := mu_sameP
  clear_value s8
  refine ok_nn (ix_ok (rfl : x6.toInt = _) (by omega) (by omega)) ?_
  refine ok_b1 (hrec hlt _ _ _ s8 h8.1 (DW_add p8 q8 hx hD1 hd)) (fun s11 (h11 : RS (n + 1) s8 s11) => ?_)
  exact ok_some ⟨s11, rfl, RM_tr h8 h11.1, fun i hi => by rw [h11.2 i (by omega), p8 i hi, h1.2 i hi]⟩
theorem srch_50 {rec : Int32 → Int32 → Int32 → Int64 → mG → Option (mG)} {a1 a2 a3 : Int32} {a4 : Int64} {s : mG} {n : Nat} (hn : a1.toInt = (n : Int)) (hn4 : n ≤ 4) (hD : DW (s.1 101) n) (hrec : n < 4 → ∀ (b2 b3 : Int32) (b4 : Int64) (s' : mG), IM s' → DW (s'.1 101) (n + 1) → ok (rec (a1 + ci 1) b2 b3 b4 s') (RS (n + 1) s')) (hI : IM s) : ok (F_X12_searches_50 rec a1 a2 a3 a4 s) (RS n s) := by
  unfold F_X12_searches_50 F_X12_searches_L53
  refine ok_whl (fun v => a1 = v.1 ∧ a2 = v.2.1 ∧ a3 = v.2.2.1 ∧ a4 = v.2.2.2.1 ∧ RS n s v.2.2.2.2.2 ∧ 0 ≤ v.2.2.2.2.1.toInt) (fun v => mUp v.2.2.2.2.1) ⟨rfl, rfl, rfl, rfl, ⟨RM_refl hI, fun _ _ => rfl⟩, show 0 ≤ (ci 0).toInt by decide⟩ (fun v hv => ?_)
  obtain ⟨x1, x2, x3, x4, x6, s1⟩ := v
  obtain ⟨rfl, rfl, rfl, rfl, rs1, r6⟩ := hv
  have hs1 : RS n s s1 := rs1
  have h6 : 0 ≤ x6.toInt := r6
  clear rs1 r6
  show ok (F_X12_searches_B53 rec a1 a2 a3 a4 x6 s1) _
  unfold F_X12_searches_B53
  refine ok_ite (fun _ => ok_some (lp_inr hs1)) (fun c => ?_)
  have c6 := r_nle (by decide : (ci 4).toInt = 4) (rfl : x6.toInt = _) c
  unfold F_X12_searches_L65
  refine ok_whl (fun v => a1 = v.1 ∧ a2 = v.2.1 ∧ a3 = v.2.2.1 ∧ a4 = v.2.2.2.1 ∧ x6 = v.2.2.2.2.1 ∧ RS n s v.2.2.2.2.2.2.2 ∧ 0 ≤ v.2.2.2.2.2.2.1.toInt ∧ v.2.2.2.2.2.2.1.toInt ≤ (n : Int) ∧ (v.2.2.2.2.2.1 = 0 → ∀ i : Nat, (i : Int) < v.2.2.2.2.2.2.1.toInt → v.2.2.2.2.2.2.2.1 101 i ≠ x6)) (fun v => mUp v.2.2.2.2.2.2.1) ⟨rfl, rfl, rfl, rfl, rfl, hs1, show 0 ≤ (ci 0).toInt by decide, show (ci 0).toInt ≤ (n : Int) by rw [show (ci 0).toInt = 0 by decide]; omega, fun _ i (hi : (i : Int) < (ci 0).toInt) => by rw [show (ci 0).toInt = 0 by decide] at hi; omega⟩ (fun v hv => ?_)
  obtain ⟨y1, y2, y3, y4, y6, x7, x8, s2⟩ := v
  obtain ⟨rfl, rfl, rfl, rfl, rfl, rs2, r8, r9, rd⟩ := hv
  have hs2 : RS n s s2 := rs2
  have h8 : 0 ≤ x8.toInt := r8
  have h9 : x8.toInt ≤ (n : Int) := r9
  have hd : x7 = 0 → ∀ i : Nat, (i : Int) < x8.toInt → s2.1 101 i ≠ x6 := rd
  clear rs2 r8 r9 rd
  show ok (F_X12_searches_B65 rec a1 a2 a3 a4 x6 x7 x8 s2) _
  unfold F_X12_searches_B65
  refine ok_ite (fun c8 => ?_) (fun c8 => ?_)
  · have d8 := r_le hn (rfl : x8.toInt = _) c8
    have fin : ∀ y, ok (F_X12_searches_120 rec a1 a2 a3 a4 x6 x7 (ci 3) (ci 2) y s2) (fun r => ∃ s3, r = Sum.inl (a1, a2, a3, a4, (x6 + ci 1), s3) ∧ RS n s s3) := fun y => srch_120 hn hn4 hD hrec hs2 ⟨h6, c6⟩ (fun q i hi => hd q i (by omega))
    refine ok_ite (fun _ => ?_) (fun _ => ?_)
    · refine ok_b1r (ok_mono (fin _) ?_)
      rintro _ ⟨s3, rfl, h3⟩
      exact lp_inl ⟨rfl, rfl, rfl, rfl, h3, up_0 (x := x6) h6 (by omega)⟩ (up_t (x := x6) (by omega))
    · refine ok_b1r (ok_mono (fin _) ?_)
      rintro _ ⟨s3, rfl, h3⟩
      exact lp_inl ⟨rfl, rfl, rfl, rfl, h3, up_0 (x := x6) h6 (by omega)⟩ (up_t (x := x6) (by omega))
  · have d8 := r_nle hn (rfl : x8.toInt = _) c8
    have one : ¬ ci 1 = 0 := by decide
    refine ok_ite (fun c7 => ?_) (fun c7 => ?_)
    · refine ok_nn (ix_ok (rfl : x8.toInt = _) (by omega) (by omega)) ?_
      refine ok_ite (fun q => ?_) (fun q => ?_)
      · unfold F_X12_searches_88 F_X12_searches_93
        exact ok_some (lp_inl ⟨rfl, rfl, rfl, rfl, rfl, hs2, up_0 (x := x8) h8 (by omega), up_le (x := x8) (by omega) (by omega), fun w => absurd w one⟩ (up_t (x := x8) (by omega)))
      · unfold F_X12_searches_93
        have nx : ∀ i : Nat, (i : Int) < (x8 + ci 1).toInt → s2.1 101 i ≠ x6 := by
          intro i hi
          rw [t_up (by omega)] at hi
          by_cases e : i = x8.toInt.toNat
          · rw [e]; exact q
          · exact hd c7 i (by omega)
        exact ok_some (lp_inl ⟨rfl, rfl, rfl, rfl, rfl, hs2, up_0 (x := x8) h8 (by omega), up_le (x := x8) (by omega) (by omega), fun _ => nx⟩ (up_t (x := x8) (by omega)))
    · unfold F_X12_searches_88 F_X12_searches_93
      exact ok_some (lp_inl ⟨rfl, rfl, rfl, rfl, rfl, hs2, up_0 (x := x8) h8 (by omega), up_le (x := x8) (by omega) (by omega), fun w => absurd w one⟩ (up_t (x := x8) (by omega)))
theorem T_X12_searches {rec : Int32 → Int32 → Int32 → Int64 → mG → Option (mG)} {a1 a2 a3 : Int32} {a4 : Int64} {s : mG} {n : Nat} (hn : a1.toInt = (n : Int)) (hn4 : n ≤ 4) (hD : DW (s.1 101) n) (hrec : n < 4 → ∀ (b2 b3 : Int32) (b4 : Int64) (s' : mG), IM s' → DW (s'.1 101) (n + 1) → ok (rec (a1 + ci 1) b2 b3 b4 s') (RS (n + 1) s')) (hI : IM s) : ok (F_X12_searches rec a1 a2 a3 a4 s) (RS n s) := by
  unfold F_X12_searches
  refine ok_ite (fun _ => srch_50 hn hn4 hD hrec hI) (fun _ => ?_)
  extract_lets +onlyGivenNames s15
  have h15 : RS n s s15 := ⟨RM_muL (RM_refl hI), fun _ _ => rfl⟩
  clear_value s15
  extract_lets +onlyGivenNames s16
  have h16 : RS n s s16 := ⟨RM_mu h15.1 (by decide), fun i hi => (h15.2 i hi)⟩
  clear_value s16
  unfold F_X12_searches_L24
  refine ok_whl (fun v => a1 = v.1 ∧ a2 = v.2.1 ∧ a3 = v.2.2.1 ∧ a4 = v.2.2.2.1 ∧ RS n s v.2.2.2.2.2 ∧ 0 ≤ v.2.2.2.2.1.toInt) (fun v => mUp v.2.2.2.2.1) ⟨rfl, rfl, rfl, rfl, h16, show 0 ≤ (ci 0).toInt by decide⟩ (fun v hv => ?_)
  obtain ⟨x1, x2, x3, x4, x6, s1⟩ := v
  obtain ⟨rfl, rfl, rfl, rfl, rs1, r6⟩ := hv
  have hs1 : RS n s s1 := rs1
  have h6 : 0 ≤ x6.toInt := r6
  clear rs1 r6
  show ok (F_X12_searches_B24 rec a1 a2 a3 a4 x6 s1) _
  unfold F_X12_searches_B24
  refine ok_ite (fun _ => ?_) (fun c => ?_)
  · refine ok_b1r (ok_mono (srch_50 hn hn4 (DW_eq hs1.2 hD) hrec hs1.1.1) (fun s3 h3 => ?_))
    exact ⟨RM_tr hs1.1 h3.1, fun i hi => (h3.2 i hi).trans (hs1.2 i hi)⟩
  · have c6 := r_nle hn (rfl : x6.toInt = _) c
    refine ok_nn (ix_ok (rfl : x6.toInt = _) (by omega) (by omega)) ?_
    refine ok_nn (ix_ok (rfl : x6.toInt = _) (by omega) (by omega)) ?_
    extract_lets +onlyGivenNames s20
    have h20 : RS n s s20 := ⟨RM_mw hs1.1 (by decide), fun i hi => (congrFun (mu_row (by decide) : mu s1.1 102 x6.toNatClampNeg (s1.1 101 x6.toNatClampNeg) 101 = s1.1 101) i).trans (hs1.2 i hi)⟩
    clear_value s20
    exact ok_some (lp_inl ⟨rfl, rfl, rfl, rfl, h20, up_0 (x := x6) h6 (by omega)⟩ (up_t (x := x6) (by omega)))
theorem TQ_X12 : ∀ (m n : Nat) (a1 : Int32), a1.toInt = (n : Int) → n ≤ 4 → 5 ≤ n + m → ∀ (a2 a3 : Int32) (a4 : Int64) (s : mG), IM s → DW (s.1 101) n → ok (Q_X12_searches m a1 a2 a3 a4 s) (RS n s) := by
  intro m
  induction m with
  | zero => intro n a1 h1 h2 h3; omega
  | succ m ih =>
    intro n a1 h1 h2 h3 a2 a3 a4 s hI hD
    show ok (F_X12_searches (Q_X12_searches m) a1 a2 a3 a4 s) (RS n s)
    refine T_X12_searches h1 h2 hD (fun h b2 b3 b4 s' hI' hD' => ?_) hI
    exact ih (n + 1) (a1 + ci 1) (by rw [t_up (by omega), h1]; omega) (by omega) (by omega) b2 b3 b4 s' hI' hD'
theorem T_fire_searches {x1 : Int32} {s : mG} (hI : IM s) : ok (F_X12_searches R_X12_searches (ci 0) (ci 0) x1 (cz 0) s) (RM s) := by
  refine ok_mono (T_X12_searches (n := 0) (by decide) (by decide) ⟨fun i hi => absurd hi (Nat.not_lt_zero i), fun i j hi => absurd hi (Nat.not_lt_zero i)⟩ (fun _ b2 b3 b4 s' h1 h2 => ?_) hI) (fun _ h => h.1)
  exact TQ_X12 5 1 _ (by decide) (by decide) (by decide) b2 b3 b4 s' h1 h2
end
end
/-! 57.k -/
section
noncomputable section
theorem T_X12_fire {a1 : Int32} {a2 : Int32} {s : mG} (hI : IM s) : ok (F_X12_fire a1 a2 s) (fun τ => (True) ∧ RM s τ.2) := by
  have hR : RM s s := RM_refl hI
  unfold F_X12_fire
  refine ok_b1 (T_X12_isIn hR.1) (fun v_1 (hv_2 : QI v_1 a1 (ci 1) (c8 99)) => ?_)
  refine ok_ite (fun h_3 => ?_) (fun h_4 => ?_)
  · have hc_5 := r_eq (rfl : (v_1).toInt = _) (by decide : (0 : Int32).toInt = 0) h_3
    unfold F_X12_fire_30
    exact ok_some ⟨trivial, hR⟩
  · have hc_6 := r_ne (rfl : (v_1).toInt = _) (by decide : (0 : Int32).toInt = 0) h_4
    have hf_7 := isin_f (a := a1) (by decide : (ci 1).toInt = 1) (by decide : (c8 99).toInt = 99) (hv_2.2 h_4)
    refine ok_b1 (T_X12_isIn hR.1) (fun v_8 (hv_9 : QI v_8 a2 (ci 0) (ci 1)) => ?_)
    refine ok_ite (fun h_10 => ?_) (fun h_11 => ?_)
    · have hc_12 := r_eq (rfl : (v_8).toInt = _) (by decide : (0 : Int32).toInt = 0) h_10
      refine ok_b1 (T_X12_isIn hR.1) (fun v_13 (hv_14 : QI v_13 a2 (c8 10) (c8 13)) => ?_)
      refine ok_ite (fun h_15 => ?_) (fun h_16 => ?_)
      · have hc_17 := r_eq (rfl : (v_13).toInt = _) (by decide : (0 : Int32).toInt = 0) h_15
        unfold F_X12_fire_30
        exact ok_some ⟨trivial, hR⟩
      · have hc_18 := r_ne (rfl : (v_13).toInt = _) (by decide : (0 : Int32).toInt = 0) h_16
        have hf_19 := isin_f (a := a2) (by decide : (c8 10).toInt = 10) (by decide : (c8 13).toInt = 13) (hv_14.2 h_16)
        unfold F_X12_fire_32
        refine ok_b1 (ok_rm hR (T_X12_laysFloors hR.1)) (fun s_20 (hs_21 : RM s s_20) => ?_)
        extract_lets +onlyGivenNames s_22
        have hs_23 : RM s s_22 := (RM_muL hs_21)
        clear_value s_22
        refine ok_b1 (ok_rm hs_23 (T_fire_searches hs_23.1)) (fun s_24 (hs_25 : RM s s_24) => ?_)
        refine ok_ite (fun h_26 => ?_) (fun h_27 => ?_)
        · have hc_28 := r_eq (rfl : (a2).toInt = _) (by decide : (0 : Int32).toInt = 0) h_26
          extract_lets +onlyGivenNames v_29
          clear_value v_29
          exact ok_some ⟨trivial, hs_25⟩
        · have hc_30 := r_ne (rfl : (a2).toInt = _) (by decide : (0 : Int32).toInt = 0) h_27
          refine ok_ite (fun h_31 => ?_) (fun h_32 => ?_)
          · have hc_33 := r_eq (rfl : (a2).toInt = _) (by decide : (ci 1).toInt = 1) h_31
            exact ok_some ⟨trivial, hs_25⟩
          · have hc_34 := r_ne (rfl : (a2).toInt = _) (by decide : (ci 1).toInt = 1) h_32
            refine ok_ite (fun h_35 => ?_) (fun h_36 => ?_)
            · exact ok_some ⟨trivial, hs_25⟩
            · refine ok_nn (ix_ok (r_sub (rfl : (a2).toInt = _) (by decide : (c8 10).toInt = 10) (by omega) (by omega)) (by omega) (by omega)) ?_
              extract_lets +onlyGivenNames v_37
              clear_value v_37
              exact ok_some ⟨trivial, hs_25⟩
    · have hc_38 := r_ne (rfl : (v_8).toInt = _) (by decide : (0 : Int32).toInt = 0) h_11
      have hf_39 := isin_f (a := a2) (by decide : (ci 0).toInt = 0) (by decide : (ci 1).toInt = 1) (hv_9.2 h_11)
      unfold F_X12_fire_32
      refine ok_b1 (ok_rm hR (T_X12_laysFloors hR.1)) (fun s_40 (hs_41 : RM s s_40) => ?_)
      extract_lets +onlyGivenNames s_42
      have hs_43 : RM s s_42 := (RM_muL hs_41)
      clear_value s_42
      refine ok_b1 (ok_rm hs_43 (T_fire_searches hs_43.1)) (fun s_44 (hs_45 : RM s s_44) => ?_)
      refine ok_ite (fun h_46 => ?_) (fun h_47 => ?_)
      · have hc_48 := r_eq (rfl : (a2).toInt = _) (by decide : (0 : Int32).toInt = 0) h_46
        extract_lets +onlyGivenNames v_49
        clear_value v_49
        exact ok_some ⟨trivial, hs_45⟩
      · have hc_50 := r_ne (rfl : (a2).toInt = _) (by decide : (0 : Int32).toInt = 0) h_47
        refine ok_ite (fun h_51 => ?_) (fun h_52 => ?_)
        · have hc_53 := r_eq (rfl : (a2).toInt = _) (by decide : (ci 1).toInt = 1) h_51
          exact ok_some ⟨trivial, hs_45⟩
        · have hc_54 := r_ne (rfl : (a2).toInt = _) (by decide : (ci 1).toInt = 1) h_52
          refine ok_ite (fun h_55 => ?_) (fun h_56 => ?_)
          · exact ok_some ⟨trivial, hs_45⟩
          · refine ok_nn (ix_ok (r_sub (rfl : (a2).toInt = _) (by decide : (c8 10).toInt = 10) (by omega) (by omega)) (by omega) (by omega)) ?_
            extract_lets +onlyGivenNames v_57
            clear_value v_57
            exact ok_some ⟨trivial, hs_45⟩
theorem T_X12_laysDoors {s : mG} (hI : IM s) : ok (F_X12_laysDoors s) (RM s) := by
  have hR : RM s s := RM_refl hI
  unfold F_X12_laysDoors
  unfold F_X12_laysDoors_L2
  refine ok_whl (fun v => RM s v.2 ∧ 0 ≤ (v.1).toInt) (fun v => mUp v.1) ⟨hR, (show 0 ≤ (ci 0).toInt by rw [((by decide : (ci 0).toInt = 0) : (ci 0).toInt = 0)]; omega)⟩ (fun v hv => ?_)
  obtain ⟨x_22, s_23⟩ := v
  obtain ⟨rhs_24, rhn_25⟩ := hv
  have hs_24 : RM s s_23 := rhs_24
  have hn_25 : 0 ≤ x_22.toInt := rhn_25
  clear rhs_24 rhn_25
  show ok (F_X12_laysDoors_B2 x_22 s_23) _
  unfold F_X12_laysDoors_B2
  refine ok_ite (fun h_26 => ?_) (fun h_27 => ?_)
  · have hc_28 := r_le (by decide : (c8 24).toInt = 24) (rfl : (x_22).toInt = _) h_26
    exact ok_some (lp_inr (hs_24))
  · have hc_29 := r_nle (by decide : (c8 24).toInt = 24) (rfl : (x_22).toInt = _) h_27
    refine ok_nn (ix_ok (r_mul (by decide : (ci 2).toInt = 2) (rfl : (x_22).toInt = _) (by omega) (by omega)) (by omega) (by omega)) ?_
    extract_lets +onlyGivenNames s_30
    have hs_31 : RM s s_30 := (RM_mw hs_24 (by decide))
    clear_value s_30
    refine ok_nn (ix_ok (r_add (r_mul (by decide : (ci 2).toInt = 2) (rfl : (x_22).toInt = _) (by omega) (by omega)) (by decide : (ci 1).toInt = 1) (by omega) (by omega)) (by omega) (by omega)) ?_
    extract_lets +onlyGivenNames s_32
    have hs_33 : RM s s_32 := (RM_mw hs_31 (by decide))
    clear_value s_32
    extract_lets +onlyGivenNames v_34
    clear_value v_34
    unfold F_X12_laysDoors_L45
    refine ok_whl (fun v => x_22 = v.1 ∧ v_34 = v.2.1 ∧ RM s v.2.2.2 ∧ 0 ≤ (v.2.2.1).toInt) (fun v => mUp v.2.2.1) ⟨rfl, rfl, hs_33, (show 0 ≤ (ci 0).toInt by rw [((by decide : (ci 0).toInt = 0) : (ci 0).toInt = 0)]; omega)⟩ (fun v hv => ?_)
    obtain ⟨x_35, x_36, x_37, s_38⟩ := v
    obtain ⟨rfl, rfl, rhs_39, rhn_40⟩ := hv
    have hs_39 : RM s s_38 := rhs_39
    have hn_40 : 0 ≤ x_37.toInt := rhn_40
    clear rhs_39 rhn_40
    show ok (F_X12_laysDoors_B45 x_22 v_34 x_37 s_38) _
    unfold F_X12_laysDoors_B45
    refine ok_ite (fun h_41 => ?_) (fun h_42 => ?_)
    · have hk_43 := im_112 hs_39.1
      have hk_44 := rm_k 89 112 hs_39 (by decide)
      have hc_45 := r_le (rfl : (s_38.1 89 112).toInt = _) (rfl : (x_37).toInt = _) h_41
      exact ok_some (lp_inr (lp_inl ⟨hs_39, (up_0 (x := x_22) (by omega) (by omega))⟩ (up_t (x := x_22) (by omega))))
    · have hk_46 := im_112 hs_39.1
      have hk_47 := rm_k 89 112 hs_39 (by decide)
      have hc_48 := r_nle (rfl : (s_38.1 89 112).toInt = _) (rfl : (x_37).toInt = _) h_42
      refine ok_nn (ix_ok (r_add (by decide : (ci 3).toInt = 3) (rfl : (x_37).toInt = _) (by omega) (by omega)) (by omega) (by omega)) ?_
      refine ok_ite (fun h_49 => ?_) (fun h_50 => ?_)
      · unfold F_X12_laysDoors_161
        exact ok_some (lp_inl ⟨rfl, rfl, hs_39, (up_0 (x := x_37) (by omega) (by omega))⟩ (up_t (x := x_37) (by omega)))
      · refine ok_nn (ix_ok (r_add (by decide : (c8 27).toInt = 27) (rfl : (x_37).toInt = _) (by omega) (by omega)) (by omega) (by omega)) ?_
        have hk_51 := im_112 hR.1
        refine ok_b2 (ok_rm2 (C := fun (v : Int32) => 0 ≤ v.toInt ∧ v.toInt ≤ 1000) hs_39 (T_X12_saysIn ⟨by omega, by omega⟩ hs_39.1)) (fun v_52 s_53 (hq : (0 ≤ v_52.toInt ∧ v_52.toInt ≤ 1000) ∧ RM s s_53) => ?_)
        obtain ⟨hv_55, hs_54⟩ := hq
        refine ok_nn (ix_ok (r_add (by decide : (c8 27).toInt = 27) (rfl : (x_37).toInt = _) (by omega) (by omega)) (by omega) (by omega)) ?_
        have hk_56 := im_112 hs_54.1
        have hk_57 := rm_k 89 112 hs_54 (by decide)
        refine ok_b2 (ok_rm2 (C := fun (v : Int32) => 0 ≤ v.toInt ∧ v.toInt ≤ 1000) hs_54 (T_X12_saysIn ⟨by omega, by omega⟩ hs_54.1)) (fun v_58 s_59 (hq : (0 ≤ v_58.toInt ∧ v_58.toInt ≤ 1000) ∧ RM s s_59) => ?_)
        obtain ⟨hv_61, hs_60⟩ := hq
        extract_lets +onlyGivenNames v_62
        clear_value v_62
        refine ok_nn (ix_ok (r_mul (by decide : (ci 2).toInt = 2) (rfl : (x_22).toInt = _) (by omega) (by omega)) (by omega) (by omega)) ?_
        refine ok_nn (ix_ok (r_mul (by decide : (ci 2).toInt = 2) (rfl : (x_22).toInt = _) (by omega) (by omega)) (by omega) (by omega)) ?_
        extract_lets +onlyGivenNames s_63
        have hs_64 : RM s s_63 := (RM_mw hs_60 (by decide))
        clear_value s_63
        extract_lets +onlyGivenNames v_65
        have he_66 : v_65.toInt = ((2 * (x_22).toInt) + 1) := (r_add (r_mul (by decide : (ci 2).toInt = 2) (rfl : (x_22).toInt = _) (by omega) (by omega)) (by decide : (ci 1).toInt = 1) (by omega) (by omega))
        clear_value v_65
        refine ok_nn (ix_ok he_66 (by omega) (by omega)) ?_
        refine ok_nn (ix_ok he_66 (by omega) (by omega)) ?_
        extract_lets +onlyGivenNames s_67
        have hs_68 : RM s s_67 := (RM_mw hs_64 (by decide))
        clear_value s_67
        unfold F_X12_laysDoors_161
        exact ok_some (lp_inl ⟨rfl, rfl, hs_68, (up_0 (x := x_37) (by omega) (by omega))⟩ (up_t (x := x_37) (by omega)))
theorem T_X12_mostBy {s : mG} {a1 : Int32} {a2 : Int32} {a3 : Int32} (h_a1 : 0 ≤ a1.toInt ∧ a1.toInt ≤ 23) (h_a2 : 0 ≤ a2.toInt ∧ a2.toInt ≤ 1) (hI : IM s) : ok (F_X12_mostBy s a1 a2 a3) (fun (v : Int32) => True) := by
  have hR : RM s s := RM_refl hI
  unfold F_X12_mostBy
  refine ok_nn (ix_ok (r_add (r_mul (by decide : (ci 2).toInt = 2) (r_add (rfl : (a1).toInt = _) (by decide : (ci 1).toInt = 1) (by omega) (by omega)) (by omega) (by omega)) (rfl : (a2).toInt = _) (by omega) (by omega)) (by omega) (by omega)) ?_
  refine ok_nn (ix_ok (r_sub (r_add (r_mul (by decide : (ci 2).toInt = 2) (r_add (rfl : (a1).toInt = _) (by decide : (ci 1).toInt = 1) (by omega) (by omega)) (by omega) (by omega)) (by decide : (ci 1).toInt = 1) (by omega) (by omega)) (rfl : (a2).toInt = _) (by omega) (by omega)) (by omega) (by omega)) ?_
  refine ok_b1 (T_X12_greater rfl hR.1) (fun v_1 _ => ?_)
  exact ok_some trivial
theorem T_X12_stands {a1 : Int32} {a2 : Int32} {s : mG} (hI : IM s) : ok (F_X12_stands a1 a2 s) (fun τ => (True) ∧ RM s τ.2) := by
  have hR : RM s s := RM_refl hI
  unfold F_X12_stands
  refine ok_b1 (T_X12_isIn hR.1) (fun v_1 (hv_2 : QI v_1 a1 (ci 0) (c16 999)) => ?_)
  refine ok_ite (fun h_3 => ?_) (fun h_4 => ?_)
  · have hc_5 := r_eq (rfl : (v_1).toInt = _) (by decide : (0 : Int32).toInt = 0) h_3
    unfold F_X12_stands_26
    exact ok_some ⟨trivial, hR⟩
  · have hc_6 := r_ne (rfl : (v_1).toInt = _) (by decide : (0 : Int32).toInt = 0) h_4
    have hf_7 := isin_f (a := a1) (by decide : (ci 0).toInt = 0) (by decide : (c16 999).toInt = 999) (hv_2.2 h_4)
    refine ok_ite (fun h_8 => ?_) (fun h_9 => ?_)
    · have hc_10 := r_eq (rfl : (a2).toInt = _) (by decide : (0 : Int32).toInt = 0) h_8
      unfold F_X12_stands_28
      refine ok_b1 (ok_rm hR (T_X12_laysDoors hR.1)) (fun s_11 (hs_12 : RM s s_11) => ?_)
      extract_lets +onlyGivenNames s_13
      have hs_14 : RM s s_13 := (RM_mw hs_12 (by decide))
      clear_value s_13
      extract_lets +onlyGivenNames s_15
      have hs_16 : RM s s_15 := (RM_mw hs_14 (by decide))
      clear_value s_15
      unfold F_X12_stands_L51
      refine ok_whl (fun v => a1 = v.1 ∧ a2 = v.2.1 ∧ RM s v.2.2.2 ∧ (v.2.2.1).toInt ≤ 23) (fun v => mDn v.2.2.1) ⟨rfl, rfl, hs_16, (show (c8 23).toInt ≤ 23 by rw [((by decide : (c8 23).toInt = 23) : (c8 23).toInt = 23)]; omega)⟩ (fun v hv => ?_)
      obtain ⟨x_26, x_27, x_28, s_29⟩ := v
      obtain ⟨rfl, rfl, rhs_30, rhn_31⟩ := hv
      have hs_30 : RM s s_29 := rhs_30
      have hn_31 : x_28.toInt ≤ 23 := rhn_31
      clear rhs_30 rhn_31
      show ok (F_X12_stands_B51 a1 a2 x_28 s_29) _
      unfold F_X12_stands_B51
      refine ok_ite (fun h_32 => ?_) (fun h_33 => ?_)
      · have hc_34 := r_lt (rfl : (x_28).toInt = _) (by decide : (0 : Int32).toInt = 0) h_32
        refine ok_ite (fun h_35 => ?_) (fun h_36 => ?_)
        · have hc_37 := r_eq (rfl : (a2).toInt = _) (by decide : (0 : Int32).toInt = 0) h_35
          refine ok_b1 (T_X12_greater (rfl : (s_29.1 104 0).toInt = _) hs_30.1) (fun v_38 _ => ?_)
          exact ok_some (lp_inr (⟨trivial, hs_30⟩))
        · have hc_40 := r_ne (rfl : (a2).toInt = _) (by decide : (0 : Int32).toInt = 0) h_36
          refine ok_ite (fun h_41 => ?_) (fun h_42 => ?_)
          · have hc_43 := r_lt (rfl : (s_29.1 104 0).toInt = _) (rfl : (s_29.1 104 1).toInt = _) h_41
            refine ok_b1r ?_
            unfold F_X12_stands_157
            unfold F_X12_stands_L161
            refine ok_whl (fun v => a1 = v.1 ∧ a2 = v.2.1 ∧ RM s v.2.2.2.2 ∧ 0 ≤ (v.2.2.2.1).toInt ∧ (0 ≤ (v.2.2.1).toInt ∧ (v.2.2.1).toInt ≤ 1)) (fun v => mUp v.2.2.2.1) ⟨rfl, rfl, hs_30, (show 0 ≤ (ci 1).toInt by rw [((by decide : (ci 1).toInt = 1) : (ci 1).toInt = 1)]; omega), (show 0 ≤ (ci 1).toInt ∧ (ci 1).toInt ≤ 1 by rw [((by decide : (ci 1).toInt = 1) : (ci 1).toInt = 1)]; exact ⟨by omega, by omega⟩)⟩ (fun v hv => ?_)
            obtain ⟨x_46, x_47, x_48, x_49, s_50⟩ := v
            obtain ⟨rfl, rfl, rhs_51, rhn_52, rhn_53⟩ := hv
            have hs_51 : RM s s_50 := rhs_51
            have hn_52 : 0 ≤ x_49.toInt := rhn_52
            have hn_53 : 0 ≤ (x_48).toInt ∧ (x_48).toInt ≤ 1 := rhn_53
            clear rhs_51 rhn_52 rhn_53
            show ok (F_X12_stands_B161 a1 a2 x_48 x_49 s_50) _
            unfold F_X12_stands_B161
            refine ok_ite (fun h_54 => ?_) (fun h_55 => ?_)
            · have hc_56 := r_lt (r_sub (rfl : (a2).toInt = _) (by decide : (c8 10).toInt = 10) (by omega) (by omega)) (rfl : (x_49).toInt = _) h_54
              exact ok_some (lp_inr (⟨trivial, hs_51⟩))
            · have hc_57 := r_nlt (r_sub (rfl : (a2).toInt = _) (by decide : (c8 10).toInt = 10) (by omega) (by omega)) (rfl : (x_49).toInt = _) h_55
              refine ok_nn (ix_ok (r_add (r_mul (by decide : (ci 2).toInt = 2) (rfl : (x_49).toInt = _) (by omega) (by omega)) (rfl : (x_48).toInt = _) (by omega) (by omega)) (by omega) (by omega)) ?_
              extract_lets +onlyGivenNames v_58
              clear_value v_58
              refine ok_nn (ix_ok (r_sub (r_add (r_mul (by decide : (ci 2).toInt = 2) (rfl : (x_49).toInt = _) (by omega) (by omega)) (by decide : (ci 1).toInt = 1) (by omega) (by omega)) (rfl : (x_48).toInt = _) (by omega) (by omega)) (by omega) (by omega)) ?_
              extract_lets +onlyGivenNames v_59
              clear_value v_59
              refine ok_ite (fun h_60 => ?_) (fun h_61 => ?_)
              · have hc_62 := r_lt (rfl : (v_58).toInt = _) (rfl : (v_59).toInt = _) h_60
                unfold F_X12_stands_219
                unfold F_X12_stands_223
                exact ok_some (lp_inl ⟨rfl, rfl, hs_51, (up_0 (x := x_49) (by omega) (by omega)), (show 0 ≤ ((ci 1) - x_48).toInt ∧ ((ci 1) - x_48).toInt ≤ 1 by rw [((r_sub (by decide : (ci 1).toInt = 1) (rfl : (x_48).toInt = _) (by omega) (by omega)) : ((ci 1) - x_48).toInt = (1 - (x_48).toInt))]; exact ⟨by omega, by omega⟩)⟩ (up_t (x := x_49) (by omega)))
              · have hc_63 := r_nlt (rfl : (v_58).toInt = _) (rfl : (v_59).toInt = _) h_61
                refine ok_ite (fun h_64 => ?_) (fun h_65 => ?_)
                · have hc_66 := r_eq (rfl : (v_59).toInt = _) (rfl : (v_58).toInt = _) h_64
                  refine ok_ite (fun h_67 => ?_) (fun h_68 => ?_)
                  · have hc_69 := r_eq (rfl : (x_48).toInt = _) (by decide : (ci 1).toInt = 1) h_67
                    unfold F_X12_stands_219
                    unfold F_X12_stands_223
                    exact ok_some (lp_inl ⟨rfl, rfl, hs_51, (up_0 (x := x_49) (by omega) (by omega)), (show 0 ≤ ((ci 1) - x_48).toInt ∧ ((ci 1) - x_48).toInt ≤ 1 by rw [((r_sub (by decide : (ci 1).toInt = 1) (rfl : (x_48).toInt = _) (by omega) (by omega)) : ((ci 1) - x_48).toInt = (1 - (x_48).toInt))]; exact ⟨by omega, by omega⟩)⟩ (up_t (x := x_49) (by omega)))
                  · have hc_70 := r_ne (rfl : (x_48).toInt = _) (by decide : (ci 1).toInt = 1) h_68
                    unfold F_X12_stands_223
                    exact ok_some (lp_inl ⟨rfl, rfl, hs_51, (up_0 (x := x_49) (by omega) (by omega)), (show 0 ≤ (x_48).toInt ∧ (x_48).toInt ≤ 1 from ⟨by omega, by omega⟩)⟩ (up_t (x := x_49) (by omega)))
                · have hc_71 := r_ne (rfl : (v_59).toInt = _) (rfl : (v_58).toInt = _) h_65
                  unfold F_X12_stands_223
                  exact ok_some (lp_inl ⟨rfl, rfl, hs_51, (up_0 (x := x_49) (by omega) (by omega)), (show 0 ≤ (x_48).toInt ∧ (x_48).toInt ≤ 1 from ⟨by omega, by omega⟩)⟩ (up_t (x := x_49) (by omega)))
          · have hc_72 := r_nlt (rfl : (s_29.1 104 0).toInt = _) (rfl : (s_29.1 104 1).toInt = _) h_42
            refine ok_b1r ?_
            unfold F_X12_stands_157
            unfold F_X12_stands_L161
            refine ok_whl (fun v => a1 = v.1 ∧ a2 = v.2.1 ∧ RM s v.2.2.2.2 ∧ 0 ≤ (v.2.2.2.1).toInt ∧ (0 ≤ (v.2.2.1).toInt ∧ (v.2.2.1).toInt ≤ 1)) (fun v => mUp v.2.2.2.1) ⟨rfl, rfl, hs_30, (show 0 ≤ (ci 1).toInt by rw [((by decide : (ci 1).toInt = 1) : (ci 1).toInt = 1)]; omega), (show 0 ≤ (ci 0).toInt ∧ (ci 0).toInt ≤ 1 by rw [((by decide : (ci 0).toInt = 0) : (ci 0).toInt = 0)]; exact ⟨by omega, by omega⟩)⟩ (fun v hv => ?_)
            obtain ⟨x_73, x_74, x_75, x_76, s_77⟩ := v
            obtain ⟨rfl, rfl, rhs_78, rhn_79, rhn_80⟩ := hv
            have hs_78 : RM s s_77 := rhs_78
            have hn_79 : 0 ≤ x_76.toInt := rhn_79
            have hn_80 : 0 ≤ (x_75).toInt ∧ (x_75).toInt ≤ 1 := rhn_80
            clear rhs_78 rhn_79 rhn_80
            show ok (F_X12_stands_B161 a1 a2 x_75 x_76 s_77) _
            unfold F_X12_stands_B161
            refine ok_ite (fun h_81 => ?_) (fun h_82 => ?_)
            · have hc_83 := r_lt (r_sub (rfl : (a2).toInt = _) (by decide : (c8 10).toInt = 10) (by omega) (by omega)) (rfl : (x_76).toInt = _) h_81
              exact ok_some (lp_inr (⟨trivial, hs_78⟩))
            · have hc_84 := r_nlt (r_sub (rfl : (a2).toInt = _) (by decide : (c8 10).toInt = 10) (by omega) (by omega)) (rfl : (x_76).toInt = _) h_82
              refine ok_nn (ix_ok (r_add (r_mul (by decide : (ci 2).toInt = 2) (rfl : (x_76).toInt = _) (by omega) (by omega)) (rfl : (x_75).toInt = _) (by omega) (by omega)) (by omega) (by omega)) ?_
              extract_lets +onlyGivenNames v_85
              clear_value v_85
              refine ok_nn (ix_ok (r_sub (r_add (r_mul (by decide : (ci 2).toInt = 2) (rfl : (x_76).toInt = _) (by omega) (by omega)) (by decide : (ci 1).toInt = 1) (by omega) (by omega)) (rfl : (x_75).toInt = _) (by omega) (by omega)) (by omega) (by omega)) ?_
              extract_lets +onlyGivenNames v_86
              clear_value v_86
              refine ok_ite (fun h_87 => ?_) (fun h_88 => ?_)
              · have hc_89 := r_lt (rfl : (v_85).toInt = _) (rfl : (v_86).toInt = _) h_87
                unfold F_X12_stands_219
                unfold F_X12_stands_223
                exact ok_some (lp_inl ⟨rfl, rfl, hs_78, (up_0 (x := x_76) (by omega) (by omega)), (show 0 ≤ ((ci 1) - x_75).toInt ∧ ((ci 1) - x_75).toInt ≤ 1 by rw [((r_sub (by decide : (ci 1).toInt = 1) (rfl : (x_75).toInt = _) (by omega) (by omega)) : ((ci 1) - x_75).toInt = (1 - (x_75).toInt))]; exact ⟨by omega, by omega⟩)⟩ (up_t (x := x_76) (by omega)))
              · have hc_90 := r_nlt (rfl : (v_85).toInt = _) (rfl : (v_86).toInt = _) h_88
                refine ok_ite (fun h_91 => ?_) (fun h_92 => ?_)
                · have hc_93 := r_eq (rfl : (v_86).toInt = _) (rfl : (v_85).toInt = _) h_91
                  refine ok_ite (fun h_94 => ?_) (fun h_95 => ?_)
                  · have hc_96 := r_eq (rfl : (x_75).toInt = _) (by decide : (ci 1).toInt = 1) h_94
                    unfold F_X12_stands_219
                    unfold F_X12_stands_223
                    exact ok_some (lp_inl ⟨rfl, rfl, hs_78, (up_0 (x := x_76) (by omega) (by omega)), (show 0 ≤ ((ci 1) - x_75).toInt ∧ ((ci 1) - x_75).toInt ≤ 1 by rw [((r_sub (by decide : (ci 1).toInt = 1) (rfl : (x_75).toInt = _) (by omega) (by omega)) : ((ci 1) - x_75).toInt = (1 - (x_75).toInt))]; exact ⟨by omega, by omega⟩)⟩ (up_t (x := x_76) (by omega)))
                  · have hc_97 := r_ne (rfl : (x_75).toInt = _) (by decide : (ci 1).toInt = 1) h_95
                    unfold F_X12_stands_223
                    exact ok_some (lp_inl ⟨rfl, rfl, hs_78, (up_0 (x := x_76) (by omega) (by omega)), (show 0 ≤ (x_75).toInt ∧ (x_75).toInt ≤ 1 from ⟨by omega, by omega⟩)⟩ (up_t (x := x_76) (by omega)))
                · have hc_98 := r_ne (rfl : (v_86).toInt = _) (rfl : (v_85).toInt = _) h_92
                  unfold F_X12_stands_223
                  exact ok_some (lp_inl ⟨rfl, rfl, hs_78, (up_0 (x := x_76) (by omega) (by omega)), (show 0 ≤ (x_75).toInt ∧ (x_75).toInt ≤ 1 from ⟨by omega, by omega⟩)⟩ (up_t (x := x_76) (by omega)))
      · have hc_99 := r_nlt (rfl : (x_28).toInt = _) (by decide : (0 : Int32).toInt = 0) h_33
        unfold F_X12_stands_L58
        refine ok_whl (fun v => a1 = v.1 ∧ a2 = v.2.1 ∧ x_28 = v.2.2.1 ∧ RM s v.2.2.2.2 ∧ 0 ≤ (v.2.2.2.1).toInt) (fun v => mUp v.2.2.2.1) ⟨rfl, rfl, rfl, hs_30, (show 0 ≤ (ci 0).toInt by rw [((by decide : (ci 0).toInt = 0) : (ci 0).toInt = 0)]; omega)⟩ (fun v hv => ?_)
        obtain ⟨x_100, x_101, x_102, x_103, s_104⟩ := v
        obtain ⟨rfl, rfl, rfl, rhs_105, rhn_106⟩ := hv
        have hs_105 : RM s s_104 := rhs_105
        have hn_106 : 0 ≤ x_103.toInt := rhn_106
        clear rhs_105 rhn_106
        show ok (F_X12_stands_B58 a1 a2 x_28 x_103 s_104) _
        unfold F_X12_stands_B58
        refine ok_ite (fun h_107 => ?_) (fun h_108 => ?_)
        · have hc_109 := r_le (by decide : (ci 2).toInt = 2) (rfl : (x_103).toInt = _) h_107
          exact ok_some (lp_inr (lp_inl ⟨rfl, rfl, hs_105, (dn_le (x := x_28) (by omega) (by omega))⟩ (dn_i (x := x_28) (by omega))))
        · have hc_110 := r_nle (by decide : (ci 2).toInt = 2) (rfl : (x_103).toInt = _) h_108
          refine ok_nn (ix_ok (r_add (r_mul (by decide : (ci 2).toInt = 2) (rfl : (x_28).toInt = _) (by omega) (by omega)) (rfl : (x_103).toInt = _) (by omega) (by omega)) (by omega) (by omega)) ?_
          refine ok_ite (fun h_111 => ?_) (fun h_112 => ?_)
          · have hc_113 := r_eq (rfl : (x_28).toInt = _) (by decide : (c8 23).toInt = 23) h_111
            unfold F_X12_stands_103
            refine ok_nn (ix_ok (r_add (r_mul (by decide : (ci 2).toInt = 2) (rfl : (x_28).toInt = _) (by omega) (by omega)) (rfl : (x_103).toInt = _) (by omega) (by omega)) (by omega) (by omega)) ?_
            extract_lets +onlyGivenNames s_114
            have hs_115 : RM s s_114 := (RM_mw hs_105 (by decide))
            clear_value s_114
            exact ok_some (lp_inl ⟨rfl, rfl, rfl, hs_115, (up_0 (x := x_103) (by omega) (by omega))⟩ (up_t (x := x_103) (by omega)))
          · have hc_116 := r_ne (rfl : (x_28).toInt = _) (by decide : (c8 23).toInt = 23) h_112
            refine ok_b1 (T_X12_mostBy ⟨by omega, by omega⟩ ⟨by omega, by omega⟩ hs_105.1) (fun v_117 _ => ?_)
            unfold F_X12_stands_103
            refine ok_nn (ix_ok (r_add (r_mul (by decide : (ci 2).toInt = 2) (rfl : (x_28).toInt = _) (by omega) (by omega)) (rfl : (x_103).toInt = _) (by omega) (by omega)) (by omega) (by omega)) ?_
            extract_lets +onlyGivenNames s_119
            have hs_120 : RM s s_119 := (RM_mw hs_105 (by decide))
            clear_value s_119
            exact ok_some (lp_inl ⟨rfl, rfl, rfl, hs_120, (up_0 (x := x_103) (by omega) (by omega))⟩ (up_t (x := x_103) (by omega)))
    · have hc_121 := r_ne (rfl : (a2).toInt = _) (by decide : (0 : Int32).toInt = 0) h_9
      refine ok_b1 (T_X12_isIn hR.1) (fun v_122 (hv_123 : QI v_122 a2 (c8 10) (c8 33)) => ?_)
      refine ok_ite (fun h_124 => ?_) (fun h_125 => ?_)
      · have hc_126 := r_eq (rfl : (v_122).toInt = _) (by decide : (0 : Int32).toInt = 0) h_124
        unfold F_X12_stands_26
        exact ok_some ⟨trivial, hR⟩
      · have hc_127 := r_ne (rfl : (v_122).toInt = _) (by decide : (0 : Int32).toInt = 0) h_125
        have hf_128 := isin_f (a := a2) (by decide : (c8 10).toInt = 10) (by decide : (c8 33).toInt = 33) (hv_123.2 h_125)
        unfold F_X12_stands_28
        refine ok_b1 (ok_rm hR (T_X12_laysDoors hR.1)) (fun s_129 (hs_130 : RM s s_129) => ?_)
        extract_lets +onlyGivenNames s_131
        have hs_132 : RM s s_131 := (RM_mw hs_130 (by decide))
        clear_value s_131
        extract_lets +onlyGivenNames s_133
        have hs_134 : RM s s_133 := (RM_mw hs_132 (by decide))
        clear_value s_133
        unfold F_X12_stands_L51
        refine ok_whl (fun v => a1 = v.1 ∧ a2 = v.2.1 ∧ RM s v.2.2.2 ∧ (v.2.2.1).toInt ≤ 23) (fun v => mDn v.2.2.1) ⟨rfl, rfl, hs_134, (show (c8 23).toInt ≤ 23 by rw [((by decide : (c8 23).toInt = 23) : (c8 23).toInt = 23)]; omega)⟩ (fun v hv => ?_)
        obtain ⟨x_135, x_136, x_137, s_138⟩ := v
        obtain ⟨rfl, rfl, rhs_139, rhn_140⟩ := hv
        have hs_139 : RM s s_138 := rhs_139
        have hn_140 : x_137.toInt ≤ 23 := rhn_140
        clear rhs_139 rhn_140
        show ok (F_X12_stands_B51 a1 a2 x_137 s_138) _
        unfold F_X12_stands_B51
        refine ok_ite (fun h_141 => ?_) (fun h_142 => ?_)
        · have hc_143 := r_lt (rfl : (x_137).toInt = _) (by decide : (0 : Int32).toInt = 0) h_141
          refine ok_ite (fun h_144 => ?_) (fun h_145 => ?_)
          · have hc_146 := r_eq (rfl : (a2).toInt = _) (by decide : (0 : Int32).toInt = 0) h_144
            refine ok_b1 (T_X12_greater (rfl : (s_138.1 104 0).toInt = _) hs_139.1) (fun v_147 _ => ?_)
            exact ok_some (lp_inr (⟨trivial, hs_139⟩))
          · have hc_149 := r_ne (rfl : (a2).toInt = _) (by decide : (0 : Int32).toInt = 0) h_145
            refine ok_ite (fun h_150 => ?_) (fun h_151 => ?_)
            · have hc_152 := r_lt (rfl : (s_138.1 104 0).toInt = _) (rfl : (s_138.1 104 1).toInt = _) h_150
              refine ok_b1r ?_
              unfold F_X12_stands_157
              unfold F_X12_stands_L161
              refine ok_whl (fun v => a1 = v.1 ∧ a2 = v.2.1 ∧ RM s v.2.2.2.2 ∧ 0 ≤ (v.2.2.2.1).toInt ∧ (0 ≤ (v.2.2.1).toInt ∧ (v.2.2.1).toInt ≤ 1)) (fun v => mUp v.2.2.2.1) ⟨rfl, rfl, hs_139, (show 0 ≤ (ci 1).toInt by rw [((by decide : (ci 1).toInt = 1) : (ci 1).toInt = 1)]; omega), (show 0 ≤ (ci 1).toInt ∧ (ci 1).toInt ≤ 1 by rw [((by decide : (ci 1).toInt = 1) : (ci 1).toInt = 1)]; exact ⟨by omega, by omega⟩)⟩ (fun v hv => ?_)
              obtain ⟨x_153, x_154, x_155, x_156, s_157⟩ := v
              obtain ⟨rfl, rfl, rhs_158, rhn_159, rhn_160⟩ := hv
              have hs_158 : RM s s_157 := rhs_158
              have hn_159 : 0 ≤ x_156.toInt := rhn_159
              have hn_160 : 0 ≤ (x_155).toInt ∧ (x_155).toInt ≤ 1 := rhn_160
              clear rhs_158 rhn_159 rhn_160
              show ok (F_X12_stands_B161 a1 a2 x_155 x_156 s_157) _
              unfold F_X12_stands_B161
              refine ok_ite (fun h_161 => ?_) (fun h_162 => ?_)
              · have hc_163 := r_lt (r_sub (rfl : (a2).toInt = _) (by decide : (c8 10).toInt = 10) (by omega) (by omega)) (rfl : (x_156).toInt = _) h_161
                exact ok_some (lp_inr (⟨trivial, hs_158⟩))
              · have hc_164 := r_nlt (r_sub (rfl : (a2).toInt = _) (by decide : (c8 10).toInt = 10) (by omega) (by omega)) (rfl : (x_156).toInt = _) h_162
                refine ok_nn (ix_ok (r_add (r_mul (by decide : (ci 2).toInt = 2) (rfl : (x_156).toInt = _) (by omega) (by omega)) (rfl : (x_155).toInt = _) (by omega) (by omega)) (by omega) (by omega)) ?_
                extract_lets +onlyGivenNames v_165
                clear_value v_165
                refine ok_nn (ix_ok (r_sub (r_add (r_mul (by decide : (ci 2).toInt = 2) (rfl : (x_156).toInt = _) (by omega) (by omega)) (by decide : (ci 1).toInt = 1) (by omega) (by omega)) (rfl : (x_155).toInt = _) (by omega) (by omega)) (by omega) (by omega)) ?_
                extract_lets +onlyGivenNames v_166
                clear_value v_166
                refine ok_ite (fun h_167 => ?_) (fun h_168 => ?_)
                · have hc_169 := r_lt (rfl : (v_165).toInt = _) (rfl : (v_166).toInt = _) h_167
                  unfold F_X12_stands_219
                  unfold F_X12_stands_223
                  exact ok_some (lp_inl ⟨rfl, rfl, hs_158, (up_0 (x := x_156) (by omega) (by omega)), (show 0 ≤ ((ci 1) - x_155).toInt ∧ ((ci 1) - x_155).toInt ≤ 1 by rw [((r_sub (by decide : (ci 1).toInt = 1) (rfl : (x_155).toInt = _) (by omega) (by omega)) : ((ci 1) - x_155).toInt = (1 - (x_155).toInt))]; exact ⟨by omega, by omega⟩)⟩ (up_t (x := x_156) (by omega)))
                · have hc_170 := r_nlt (rfl : (v_165).toInt = _) (rfl : (v_166).toInt = _) h_168
                  refine ok_ite (fun h_171 => ?_) (fun h_172 => ?_)
                  · have hc_173 := r_eq (rfl : (v_166).toInt = _) (rfl : (v_165).toInt = _) h_171
                    refine ok_ite (fun h_174 => ?_) (fun h_175 => ?_)
                    · have hc_176 := r_eq (rfl : (x_155).toInt = _) (by decide : (ci 1).toInt = 1) h_174
                      unfold F_X12_stands_219
                      unfold F_X12_stands_223
                      exact ok_some (lp_inl ⟨rfl, rfl, hs_158, (up_0 (x := x_156) (by omega) (by omega)), (show 0 ≤ ((ci 1) - x_155).toInt ∧ ((ci 1) - x_155).toInt ≤ 1 by rw [((r_sub (by decide : (ci 1).toInt = 1) (rfl : (x_155).toInt = _) (by omega) (by omega)) : ((ci 1) - x_155).toInt = (1 - (x_155).toInt))]; exact ⟨by omega, by omega⟩)⟩ (up_t (x := x_156) (by omega)))
                    · have hc_177 := r_ne (rfl : (x_155).toInt = _) (by decide : (ci 1).toInt = 1) h_175
                      unfold F_X12_stands_223
                      exact ok_some (lp_inl ⟨rfl, rfl, hs_158, (up_0 (x := x_156) (by omega) (by omega)), (show 0 ≤ (x_155).toInt ∧ (x_155).toInt ≤ 1 from ⟨by omega, by omega⟩)⟩ (up_t (x := x_156) (by omega)))
                  · have hc_178 := r_ne (rfl : (v_166).toInt = _) (rfl : (v_165).toInt = _) h_172
                    unfold F_X12_stands_223
                    exact ok_some (lp_inl ⟨rfl, rfl, hs_158, (up_0 (x := x_156) (by omega) (by omega)), (show 0 ≤ (x_155).toInt ∧ (x_155).toInt ≤ 1 from ⟨by omega, by omega⟩)⟩ (up_t (x := x_156) (by omega)))
            · have hc_179 := r_nlt (rfl : (s_138.1 104 0).toInt = _) (rfl : (s_138.1 104 1).toInt = _) h_151
              refine ok_b1r ?_
              unfold F_X12_stands_157
              unfold F_X12_stands_L161
              refine ok_whl (fun v => a1 = v.1 ∧ a2 = v.2.1 ∧ RM s v.2.2.2.2 ∧ 0 ≤ (v.2.2.2.1).toInt ∧ (0 ≤ (v.2.2.1).toInt ∧ (v.2.2.1).toInt ≤ 1)) (fun v => mUp v.2.2.2.1) ⟨rfl, rfl, hs_139, (show 0 ≤ (ci 1).toInt by rw [((by decide : (ci 1).toInt = 1) : (ci 1).toInt = 1)]; omega), (show 0 ≤ (ci 0).toInt ∧ (ci 0).toInt ≤ 1 by rw [((by decide : (ci 0).toInt = 0) : (ci 0).toInt = 0)]; exact ⟨by omega, by omega⟩)⟩ (fun v hv => ?_)
              obtain ⟨x_180, x_181, x_182, x_183, s_184⟩ := v
              obtain ⟨rfl, rfl, rhs_185, rhn_186, rhn_187⟩ := hv
              have hs_185 : RM s s_184 := rhs_185
              have hn_186 : 0 ≤ x_183.toInt := rhn_186
              have hn_187 : 0 ≤ (x_182).toInt ∧ (x_182).toInt ≤ 1 := rhn_187
              clear rhs_185 rhn_186 rhn_187
              show ok (F_X12_stands_B161 a1 a2 x_182 x_183 s_184) _
              unfold F_X12_stands_B161
              refine ok_ite (fun h_188 => ?_) (fun h_189 => ?_)
              · have hc_190 := r_lt (r_sub (rfl : (a2).toInt = _) (by decide : (c8 10).toInt = 10) (by omega) (by omega)) (rfl : (x_183).toInt = _) h_188
                exact ok_some (lp_inr (⟨trivial, hs_185⟩))
              · have hc_191 := r_nlt (r_sub (rfl : (a2).toInt = _) (by decide : (c8 10).toInt = 10) (by omega) (by omega)) (rfl : (x_183).toInt = _) h_189
                refine ok_nn (ix_ok (r_add (r_mul (by decide : (ci 2).toInt = 2) (rfl : (x_183).toInt = _) (by omega) (by omega)) (rfl : (x_182).toInt = _) (by omega) (by omega)) (by omega) (by omega)) ?_
                extract_lets +onlyGivenNames v_192
                clear_value v_192
                refine ok_nn (ix_ok (r_sub (r_add (r_mul (by decide : (ci 2).toInt = 2) (rfl : (x_183).toInt = _) (by omega) (by omega)) (by decide : (ci 1).toInt = 1) (by omega) (by omega)) (rfl : (x_182).toInt = _) (by omega) (by omega)) (by omega) (by omega)) ?_
                extract_lets +onlyGivenNames v_193
                clear_value v_193
                refine ok_ite (fun h_194 => ?_) (fun h_195 => ?_)
                · have hc_196 := r_lt (rfl : (v_192).toInt = _) (rfl : (v_193).toInt = _) h_194
                  unfold F_X12_stands_219
                  unfold F_X12_stands_223
                  exact ok_some (lp_inl ⟨rfl, rfl, hs_185, (up_0 (x := x_183) (by omega) (by omega)), (show 0 ≤ ((ci 1) - x_182).toInt ∧ ((ci 1) - x_182).toInt ≤ 1 by rw [((r_sub (by decide : (ci 1).toInt = 1) (rfl : (x_182).toInt = _) (by omega) (by omega)) : ((ci 1) - x_182).toInt = (1 - (x_182).toInt))]; exact ⟨by omega, by omega⟩)⟩ (up_t (x := x_183) (by omega)))
                · have hc_197 := r_nlt (rfl : (v_192).toInt = _) (rfl : (v_193).toInt = _) h_195
                  refine ok_ite (fun h_198 => ?_) (fun h_199 => ?_)
                  · have hc_200 := r_eq (rfl : (v_193).toInt = _) (rfl : (v_192).toInt = _) h_198
                    refine ok_ite (fun h_201 => ?_) (fun h_202 => ?_)
                    · have hc_203 := r_eq (rfl : (x_182).toInt = _) (by decide : (ci 1).toInt = 1) h_201
                      unfold F_X12_stands_219
                      unfold F_X12_stands_223
                      exact ok_some (lp_inl ⟨rfl, rfl, hs_185, (up_0 (x := x_183) (by omega) (by omega)), (show 0 ≤ ((ci 1) - x_182).toInt ∧ ((ci 1) - x_182).toInt ≤ 1 by rw [((r_sub (by decide : (ci 1).toInt = 1) (rfl : (x_182).toInt = _) (by omega) (by omega)) : ((ci 1) - x_182).toInt = (1 - (x_182).toInt))]; exact ⟨by omega, by omega⟩)⟩ (up_t (x := x_183) (by omega)))
                    · have hc_204 := r_ne (rfl : (x_182).toInt = _) (by decide : (ci 1).toInt = 1) h_202
                      unfold F_X12_stands_223
                      exact ok_some (lp_inl ⟨rfl, rfl, hs_185, (up_0 (x := x_183) (by omega) (by omega)), (show 0 ≤ (x_182).toInt ∧ (x_182).toInt ≤ 1 from ⟨by omega, by omega⟩)⟩ (up_t (x := x_183) (by omega)))
                  · have hc_205 := r_ne (rfl : (v_193).toInt = _) (rfl : (v_192).toInt = _) h_199
                    unfold F_X12_stands_223
                    exact ok_some (lp_inl ⟨rfl, rfl, hs_185, (up_0 (x := x_183) (by omega) (by omega)), (show 0 ≤ (x_182).toInt ∧ (x_182).toInt ≤ 1 from ⟨by omega, by omega⟩)⟩ (up_t (x := x_183) (by omega)))
        · have hc_206 := r_nlt (rfl : (x_137).toInt = _) (by decide : (0 : Int32).toInt = 0) h_142
          unfold F_X12_stands_L58
          refine ok_whl (fun v => a1 = v.1 ∧ a2 = v.2.1 ∧ x_137 = v.2.2.1 ∧ RM s v.2.2.2.2 ∧ 0 ≤ (v.2.2.2.1).toInt) (fun v => mUp v.2.2.2.1) ⟨rfl, rfl, rfl, hs_139, (show 0 ≤ (ci 0).toInt by rw [((by decide : (ci 0).toInt = 0) : (ci 0).toInt = 0)]; omega)⟩ (fun v hv => ?_)
          obtain ⟨x_207, x_208, x_209, x_210, s_211⟩ := v
          obtain ⟨rfl, rfl, rfl, rhs_212, rhn_213⟩ := hv
          have hs_212 : RM s s_211 := rhs_212
          have hn_213 : 0 ≤ x_210.toInt := rhn_213
          clear rhs_212 rhn_213
          show ok (F_X12_stands_B58 a1 a2 x_137 x_210 s_211) _
          unfold F_X12_stands_B58
          refine ok_ite (fun h_214 => ?_) (fun h_215 => ?_)
          · have hc_216 := r_le (by decide : (ci 2).toInt = 2) (rfl : (x_210).toInt = _) h_214
            exact ok_some (lp_inr (lp_inl ⟨rfl, rfl, hs_212, (dn_le (x := x_137) (by omega) (by omega))⟩ (dn_i (x := x_137) (by omega))))
          · have hc_217 := r_nle (by decide : (ci 2).toInt = 2) (rfl : (x_210).toInt = _) h_215
            refine ok_nn (ix_ok (r_add (r_mul (by decide : (ci 2).toInt = 2) (rfl : (x_137).toInt = _) (by omega) (by omega)) (rfl : (x_210).toInt = _) (by omega) (by omega)) (by omega) (by omega)) ?_
            refine ok_ite (fun h_218 => ?_) (fun h_219 => ?_)
            · have hc_220 := r_eq (rfl : (x_137).toInt = _) (by decide : (c8 23).toInt = 23) h_218
              unfold F_X12_stands_103
              refine ok_nn (ix_ok (r_add (r_mul (by decide : (ci 2).toInt = 2) (rfl : (x_137).toInt = _) (by omega) (by omega)) (rfl : (x_210).toInt = _) (by omega) (by omega)) (by omega) (by omega)) ?_
              extract_lets +onlyGivenNames s_221
              have hs_222 : RM s s_221 := (RM_mw hs_212 (by decide))
              clear_value s_221
              exact ok_some (lp_inl ⟨rfl, rfl, rfl, hs_222, (up_0 (x := x_210) (by omega) (by omega))⟩ (up_t (x := x_210) (by omega)))
            · have hc_223 := r_ne (rfl : (x_137).toInt = _) (by decide : (c8 23).toInt = 23) h_219
              refine ok_b1 (T_X12_mostBy ⟨by omega, by omega⟩ ⟨by omega, by omega⟩ hs_212.1) (fun v_224 _ => ?_)
              unfold F_X12_stands_103
              refine ok_nn (ix_ok (r_add (r_mul (by decide : (ci 2).toInt = 2) (rfl : (x_137).toInt = _) (by omega) (by omega)) (rfl : (x_210).toInt = _) (by omega) (by omega)) (by omega) (by omega)) ?_
              extract_lets +onlyGivenNames s_226
              have hs_227 : RM s s_226 := (RM_mw hs_212 (by decide))
              clear_value s_226
              exact ok_some (lp_inl ⟨rfl, rfl, rfl, hs_227, (up_0 (x := x_210) (by omega) (by omega))⟩ (up_t (x := x_210) (by omega)))
end
end
/-! 57.l -/
section
noncomputable section
theorem T_X12_lastSawBy {s : mG} {a1 : Int32} (hI : IM s) : ok (F_X12_lastSawBy s a1) (fun (v : Int32) => True) := by
  have hR : RM s s := RM_refl hI
  unfold F_X12_lastSawBy
  unfold F_X12_lastSawBy_L4
  refine ok_whl (fun v => a1 = v.1 ∧ 0 ≤ (v.2.2).toInt) (fun v => mUp v.2.2) ⟨rfl, (show 0 ≤ (ci 0).toInt by rw [((by decide : (ci 0).toInt = 0) : (ci 0).toInt = 0)]; omega)⟩ (fun v hv => ?_)
  obtain ⟨x_3, x_4, x_5⟩ := v
  obtain ⟨rfl, rhn_6⟩ := hv
  have hn_6 : 0 ≤ x_5.toInt := rhn_6
  clear rhn_6
  show ok (F_X12_lastSawBy_B4 s a1 x_4 x_5) _
  unfold F_X12_lastSawBy_B4
  refine ok_ite (fun h_7 => ?_) (fun h_8 => ?_)
  · have hk_9 := im_2 hR.1
    have hc_10 := r_le (rfl : (s.1 89 2).toInt = _) (rfl : (x_5).toInt = _) h_7
    exact ok_some (lp_inr (trivial))
  · have hk_11 := im_2 hR.1
    have hc_12 := r_nle (rfl : (s.1 89 2).toInt = _) (rfl : (x_5).toInt = _) h_8
    extract_lets +onlyGivenNames v_13
    have he_14 : v_13.toInt = (235 + (5 * (x_5).toInt)) := (r_add (by decide : (c16 235).toInt = 235) (r_mul (by decide : (ci 5).toInt = 5) (rfl : (x_5).toInt = _) (by omega) (by omega)) (by omega) (by omega))
    clear_value v_13
    refine ok_nn (ix_ok (r_add he_14 (by decide : (ci 1).toInt = 1) (by omega) (by omega)) (by omega) (by omega)) ?_
    refine ok_ite (fun h_15 => ?_) (fun h_16 => ?_)
    · refine ok_nn (ix_ok (r_add he_14 (by decide : (ci 2).toInt = 2) (by omega) (by omega)) (by omega) (by omega)) ?_
      refine ok_ite (fun h_17 => ?_) (fun h_18 => ?_)
      · refine ok_nn (ix_ok (r_add he_14 (by decide : (ci 4).toInt = 4) (by omega) (by omega)) (by omega) (by omega)) ?_
        extract_lets +onlyGivenNames v_19
        clear_value v_19
        unfold F_X12_lastSawBy_58
        exact ok_some (lp_inl ⟨rfl, (up_0 (x := x_5) (by omega) (by omega))⟩ (up_t (x := x_5) (by omega)))
      · unfold F_X12_lastSawBy_58
        exact ok_some (lp_inl ⟨rfl, (up_0 (x := x_5) (by omega) (by omega))⟩ (up_t (x := x_5) (by omega)))
    · unfold F_X12_lastSawBy_58
      exact ok_some (lp_inl ⟨rfl, (up_0 (x := x_5) (by omega) (by omega))⟩ (up_t (x := x_5) (by omega)))
theorem T_X12_tellsOn {s : mG} {a1 : Int32} (hI : IM s) : ok (F_X12_tellsOn s a1) (fun (v : Int32) => True) := by
  have hR : RM s s := RM_refl hI
  unfold F_X12_tellsOn
  refine ok_b1 (T_X12_isIn hR.1) (fun v_1 (hv_2 : QI v_1 a1 (ci 0) (ci 3)) => ?_)
  refine ok_ite (fun h_3 => ?_) (fun h_4 => ?_)
  · have hc_5 := r_eq (rfl : (v_1).toInt = _) (by decide : (0 : Int32).toInt = 0) h_3
    exact ok_some trivial
  · have hc_6 := r_ne (rfl : (v_1).toInt = _) (by decide : (0 : Int32).toInt = 0) h_4
    have hf_7 := isin_f (a := a1) (by decide : (ci 0).toInt = 0) (by decide : (ci 3).toInt = 3) (hv_2.2 h_4)
    unfold F_X12_tellsOn_L15
    refine ok_whl (fun v => a1 = v.1 ∧ 0 ≤ (v.2.2).toInt) (fun v => mUp v.2.2) ⟨rfl, (show 0 ≤ (ci 0).toInt by rw [((by decide : (ci 0).toInt = 0) : (ci 0).toInt = 0)]; omega)⟩ (fun v hv => ?_)
    obtain ⟨x_9, x_10, x_11⟩ := v
    obtain ⟨rfl, rhn_12⟩ := hv
    have hn_12 : 0 ≤ x_11.toInt := rhn_12
    clear rhn_12
    show ok (F_X12_tellsOn_B15 s a1 x_10 x_11) _
    unfold F_X12_tellsOn_B15
    refine ok_ite (fun h_13 => ?_) (fun h_14 => ?_)
    · have hk_15 := im_112 hR.1
      have hc_16 := r_le (rfl : (s.1 89 112).toInt = _) (rfl : (x_11).toInt = _) h_13
      exact ok_some (lp_inr (trivial))
    · have hk_17 := im_112 hR.1
      have hc_18 := r_nle (rfl : (s.1 89 112).toInt = _) (rfl : (x_11).toInt = _) h_14
      refine ok_nn (ix_ok (r_add (by decide : (ci 3).toInt = 3) (rfl : (x_11).toInt = _) (by omega) (by omega)) (by omega) (by omega)) ?_
      refine ok_ite (fun h_19 => ?_) (fun h_20 => ?_)
      · refine ok_b1 (T_X12_lastSawBy hR.1) (fun v_21 _ => ?_)
        refine ok_ite (fun h_23 => ?_) (fun h_24 => ?_)
        · have hc_25 := r_eq (rfl : (v_21).toInt = _) (rfl : (a1).toInt = _) h_23
          unfold F_X12_tellsOn_55
          exact ok_some (lp_inl ⟨rfl, (up_0 (x := x_11) (by omega) (by omega))⟩ (up_t (x := x_11) (by omega)))
        · have hc_26 := r_ne (rfl : (v_21).toInt = _) (rfl : (a1).toInt = _) h_24
          unfold F_X12_tellsOn_54
          unfold F_X12_tellsOn_55
          exact ok_some (lp_inl ⟨rfl, (up_0 (x := x_11) (by omega) (by omega))⟩ (up_t (x := x_11) (by omega)))
      · unfold F_X12_tellsOn_54
        unfold F_X12_tellsOn_55
        exact ok_some (lp_inl ⟨rfl, (up_0 (x := x_11) (by omega) (by omega))⟩ (up_t (x := x_11) (by omega)))
theorem T_X12_saw {s : mG} {a1 : Int32} {a2 : Int32} (hI : IM s) : ok (F_X12_saw s a1 a2) (fun (v : Int32) => True) := by
  have hR : RM s s := RM_refl hI
  unfold F_X12_saw
  refine ok_b1 (T_X12_isGuest hR.1) (fun v_1 (hv_2 : QG v_1 a1 (s.1 89 112)) => ?_)
  refine ok_ite (fun h_3 => ?_) (fun h_4 => ?_)
  · have hc_5 := r_eq (rfl : (v_1).toInt = _) (by decide : (0 : Int32).toInt = 0) h_3
    unfold F_X12_saw_17
    exact ok_some trivial
  · have hc_6 := r_ne (rfl : (v_1).toInt = _) (by decide : (0 : Int32).toInt = 0) h_4
    have hk_7 := im_112 hR.1
    have hk_8 := im_115 hR.1
    have hf_9 := hv_2.2 h_4
    refine ok_b1 (T_X12_isIn hR.1) (fun v_10 (hv_11 : QI v_10 a2 (ci 0) (ci 1)) => ?_)
    refine ok_ite (fun h_12 => ?_) (fun h_13 => ?_)
    · have hc_14 := r_eq (rfl : (v_10).toInt = _) (by decide : (0 : Int32).toInt = 0) h_12
      unfold F_X12_saw_17
      exact ok_some trivial
    · have hc_15 := r_ne (rfl : (v_10).toInt = _) (by decide : (0 : Int32).toInt = 0) h_13
      have hf_16 := isin_f (a := a2) (by decide : (ci 0).toInt = 0) (by decide : (ci 1).toInt = 1) (hv_11.2 h_13)
      unfold F_X12_saw_L24
      refine ok_whl (fun v => a1 = v.1 ∧ a2 = v.2.1 ∧ 0 ≤ (v.2.2.2).toInt) (fun v => mUp v.2.2.2) ⟨rfl, rfl, (show 0 ≤ (ci 0).toInt by rw [((by decide : (ci 0).toInt = 0) : (ci 0).toInt = 0)]; omega)⟩ (fun v hv => ?_)
      obtain ⟨x_18, x_19, x_20, x_21⟩ := v
      obtain ⟨rfl, rfl, rhn_22⟩ := hv
      have hn_22 : 0 ≤ x_21.toInt := rhn_22
      clear rhn_22
      show ok (F_X12_saw_B24 s a1 a2 x_20 x_21) _
      unfold F_X12_saw_B24
      refine ok_ite (fun h_23 => ?_) (fun h_24 => ?_)
      · have hk_25 := im_2 hR.1
        have hc_26 := r_le (rfl : (s.1 89 2).toInt = _) (rfl : (x_21).toInt = _) h_23
        exact ok_some (lp_inr (trivial))
      · have hk_27 := im_2 hR.1
        have hc_28 := r_nle (rfl : (s.1 89 2).toInt = _) (rfl : (x_21).toInt = _) h_24
        extract_lets +onlyGivenNames v_29
        have he_30 : v_29.toInt = (235 + (5 * (x_21).toInt)) := (r_add (by decide : (c16 235).toInt = 235) (r_mul (by decide : (ci 5).toInt = 5) (rfl : (x_21).toInt = _) (by omega) (by omega)) (by omega) (by omega))
        clear_value v_29
        refine ok_nn (ix_ok (r_add he_30 (by decide : (ci 1).toInt = 1) (by omega) (by omega)) (by omega) (by omega)) ?_
        refine ok_ite (fun h_31 => ?_) (fun h_32 => ?_)
        · unfold F_X12_saw_98
          unfold F_X12_saw_99
          exact ok_some (lp_inl ⟨rfl, rfl, (up_0 (x := x_21) (by omega) (by omega))⟩ (up_t (x := x_21) (by omega)))
        · refine ok_nn (ix_ok (r_add he_30 (by decide : (ci 2).toInt = 2) (by omega) (by omega)) (by omega) (by omega)) ?_
          refine ok_ite (fun h_33 => ?_) (fun h_34 => ?_)
          · refine ok_nn (ix_ok (r_add he_30 (by decide : (ci 4).toInt = 4) (by omega) (by omega)) (by omega) (by omega)) ?_
            refine ok_ite (fun h_35 => ?_) (fun h_36 => ?_)
            · unfold F_X12_saw_90
              refine ok_ite (fun h_37 => ?_) (fun h_38 => ?_)
              · have hc_39 := r_eq (by decide : (ci 1).toInt = 1) (rfl : (a2).toInt = _) h_37
                unfold F_X12_saw_99
                exact ok_some (lp_inl ⟨rfl, rfl, (up_0 (x := x_21) (by omega) (by omega))⟩ (up_t (x := x_21) (by omega)))
              · have hc_40 := r_ne (by decide : (ci 1).toInt = 1) (rfl : (a2).toInt = _) h_38
                unfold F_X12_saw_98
                unfold F_X12_saw_99
                exact ok_some (lp_inl ⟨rfl, rfl, (up_0 (x := x_21) (by omega) (by omega))⟩ (up_t (x := x_21) (by omega)))
            · unfold F_X12_saw_90
              refine ok_ite (fun h_41 => ?_) (fun h_42 => ?_)
              · have hc_43 := r_eq (by decide : (ci 0).toInt = 0) (rfl : (a2).toInt = _) h_41
                unfold F_X12_saw_99
                exact ok_some (lp_inl ⟨rfl, rfl, (up_0 (x := x_21) (by omega) (by omega))⟩ (up_t (x := x_21) (by omega)))
              · have hc_44 := r_ne (by decide : (ci 0).toInt = 0) (rfl : (a2).toInt = _) h_42
                unfold F_X12_saw_98
                unfold F_X12_saw_99
                exact ok_some (lp_inl ⟨rfl, rfl, (up_0 (x := x_21) (by omega) (by omega))⟩ (up_t (x := x_21) (by omega)))
          · unfold F_X12_saw_98
            unfold F_X12_saw_99
            exact ok_some (lp_inl ⟨rfl, rfl, (up_0 (x := x_21) (by omega) (by omega))⟩ (up_t (x := x_21) (by omega)))
theorem T_X12_by {s : mG} {a1 : Int32} {a2 : Int32} (hI : IM s) : ok (F_X12_by s a1 a2) (fun (v : Int32) => True) := by
  have hR : RM s s := RM_refl hI
  unfold F_X12_by
  refine ok_b1 (T_X12_isIn hR.1) (fun v_1 (hv_2 : QI v_1 a1 (ci 0) (ci 1)) => ?_)
  refine ok_ite (fun h_3 => ?_) (fun h_4 => ?_)
  · have hc_5 := r_eq (rfl : (v_1).toInt = _) (by decide : (0 : Int32).toInt = 0) h_3
    unfold F_X12_by_18
    exact ok_some trivial
  · have hc_6 := r_ne (rfl : (v_1).toInt = _) (by decide : (0 : Int32).toInt = 0) h_4
    have hf_7 := isin_f (a := a1) (by decide : (ci 0).toInt = 0) (by decide : (ci 1).toInt = 1) (hv_2.2 h_4)
    refine ok_b1 (T_X12_isIn hR.1) (fun v_8 (hv_9 : QI v_8 a2 (ci 0) (ci 1)) => ?_)
    refine ok_ite (fun h_10 => ?_) (fun h_11 => ?_)
    · have hc_12 := r_eq (rfl : (v_8).toInt = _) (by decide : (0 : Int32).toInt = 0) h_10
      unfold F_X12_by_18
      exact ok_some trivial
    · have hc_13 := r_ne (rfl : (v_8).toInt = _) (by decide : (0 : Int32).toInt = 0) h_11
      have hf_14 := isin_f (a := a2) (by decide : (ci 0).toInt = 0) (by decide : (ci 1).toInt = 1) (hv_9.2 h_11)
      unfold F_X12_by_L25
      refine ok_whl (fun v => a1 = v.1 ∧ a2 = v.2.1 ∧ 0 ≤ (v.2.2.2).toInt) (fun v => mUp v.2.2.2) ⟨rfl, rfl, (show 0 ≤ (ci 0).toInt by rw [((by decide : (ci 0).toInt = 0) : (ci 0).toInt = 0)]; omega)⟩ (fun v hv => ?_)
      obtain ⟨x_15, x_16, x_17, x_18⟩ := v
      obtain ⟨rfl, rfl, rhn_19⟩ := hv
      have hn_19 : 0 ≤ x_18.toInt := rhn_19
      clear rhn_19
      show ok (F_X12_by_B25 s a1 a2 x_17 x_18) _
      unfold F_X12_by_B25
      refine ok_ite (fun h_20 => ?_) (fun h_21 => ?_)
      · have hk_22 := im_2 hR.1
        have hc_23 := r_le (rfl : (s.1 89 2).toInt = _) (rfl : (x_18).toInt = _) h_20
        exact ok_some (lp_inr (trivial))
      · have hk_24 := im_2 hR.1
        have hc_25 := r_nle (rfl : (s.1 89 2).toInt = _) (rfl : (x_18).toInt = _) h_21
        refine ok_nn (ix_ok (r_add (r_add (by decide : (c16 235).toInt = 235) (r_mul (by decide : (ci 5).toInt = 5) (rfl : (x_18).toInt = _) (by omega) (by omega)) (by omega) (by omega)) (by decide : (ci 1).toInt = 1) (by omega) (by omega)) (by omega) (by omega)) ?_
        refine ok_ite (fun h_26 => ?_) (fun h_27 => ?_)
        · have hc_28 := r_eq (rfl : (a2).toInt = _) (by decide : (0 : Int32).toInt = 0) h_26
          unfold F_X12_by_61
          refine ok_ite (fun h_29 => ?_) (fun h_30 => ?_)
          · refine ok_nn (ix_ok (r_add (r_add (by decide : (c16 235).toInt = 235) (r_mul (by decide : (ci 5).toInt = 5) (rfl : (x_18).toInt = _) (by omega) (by omega)) (by omega) (by omega)) (by decide : (ci 3).toInt = 3) (by omega) (by omega)) (by omega) (by omega)) ?_
            refine ok_ite (fun h_31 => ?_) (fun h_32 => ?_)
            · unfold F_X12_by_88
              exact ok_some (lp_inl ⟨rfl, rfl, (up_0 (x := x_18) (by omega) (by omega))⟩ (up_t (x := x_18) (by omega)))
            · unfold F_X12_by_87
              unfold F_X12_by_88
              exact ok_some (lp_inl ⟨rfl, rfl, (up_0 (x := x_18) (by omega) (by omega))⟩ (up_t (x := x_18) (by omega)))
          · unfold F_X12_by_87
            unfold F_X12_by_88
            exact ok_some (lp_inl ⟨rfl, rfl, (up_0 (x := x_18) (by omega) (by omega))⟩ (up_t (x := x_18) (by omega)))
        · have hc_33 := r_ne (rfl : (a2).toInt = _) (by decide : (0 : Int32).toInt = 0) h_27
          unfold F_X12_by_61
          refine ok_ite (fun h_34 => ?_) (fun h_35 => ?_)
          · refine ok_nn (ix_ok (r_add (r_add (by decide : (c16 235).toInt = 235) (r_mul (by decide : (ci 5).toInt = 5) (rfl : (x_18).toInt = _) (by omega) (by omega)) (by omega) (by omega)) (by decide : (ci 3).toInt = 3) (by omega) (by omega)) (by omega) (by omega)) ?_
            refine ok_ite (fun h_36 => ?_) (fun h_37 => ?_)
            · unfold F_X12_by_88
              exact ok_some (lp_inl ⟨rfl, rfl, (up_0 (x := x_18) (by omega) (by omega))⟩ (up_t (x := x_18) (by omega)))
            · unfold F_X12_by_87
              unfold F_X12_by_88
              exact ok_some (lp_inl ⟨rfl, rfl, (up_0 (x := x_18) (by omega) (by omega))⟩ (up_t (x := x_18) (by omega)))
          · unfold F_X12_by_87
            unfold F_X12_by_88
            exact ok_some (lp_inl ⟨rfl, rfl, (up_0 (x := x_18) (by omega) (by omega))⟩ (up_t (x := x_18) (by omega)))
theorem T_X12_carries {s : mG} (hI : IM s) : ok (F_X12_carries s) (fun τ => (True) ∧ RM s τ.2) := by
  have hR : RM s s := RM_refl hI
  unfold F_X12_carries
  unfold F_X12_carries_L4
  refine ok_whl (fun v => RM s v.2.2 ∧ 0 ≤ (v.2.1).toInt ∧ (-1 ≤ (v.1).toInt ∧ (v.1).toInt < 12)) (fun v => mUp v.2.1) ⟨hR, (show 0 ≤ (ci 0).toInt by rw [((by decide : (ci 0).toInt = 0) : (ci 0).toInt = 0)]; omega), (show -1 ≤ (ci (-1)).toInt ∧ (ci (-1)).toInt < 12 by rw [((by decide : (ci (-1)).toInt = (-1)) : (ci (-1)).toInt = (-1))]; exact ⟨by omega, by omega⟩)⟩ (fun v hv => ?_)
  obtain ⟨x_5, x_6, s_7⟩ := v
  obtain ⟨rhs_8, rhn_9, rhn_10⟩ := hv
  have hs_8 : RM s s_7 := rhs_8
  have hn_9 : 0 ≤ x_6.toInt := rhn_9
  have hn_10 : -1 ≤ (x_5).toInt ∧ (x_5).toInt < 12 := rhn_10
  clear rhs_8 rhn_9 rhn_10
  show ok (F_X12_carries_B4 x_5 x_6 s_7) _
  unfold F_X12_carries_B4
  refine ok_ite (fun h_11 => ?_) (fun h_12 => ?_)
  · have hk_13 := im_112 hs_8.1
    have hk_14 := rm_k 89 112 hs_8 (by decide)
    have hc_15 := r_le (rfl : (s_7.1 89 112).toInt = _) (rfl : (x_6).toInt = _) h_11
    exact ok_some (lp_inr (⟨trivial, hs_8⟩))
  · have hk_16 := im_112 hs_8.1
    have hk_17 := rm_k 89 112 hs_8 (by decide)
    have hc_18 := r_nle (rfl : (s_7.1 89 112).toInt = _) (rfl : (x_6).toInt = _) h_12
    refine ok_ite (fun h_19 => ?_) (fun h_20 => ?_)
    · have hc_21 := r_eq (rfl : (x_5).toInt = _) (by decide : (ci (-1)).toInt = (-1)) h_19
      unfold F_X12_carries_37
      unfold F_X12_carries_39
      exact ok_some (lp_inl ⟨hs_8, (up_0 (x := x_6) (by omega) (by omega)), (show -1 ≤ (x_6).toInt ∧ (x_6).toInt < 12 from ⟨by omega, by omega⟩)⟩ (up_t (x := x_6) (by omega)))
    · have hc_22 := r_ne (rfl : (x_5).toInt = _) (by decide : (ci (-1)).toInt = (-1)) h_20
      have hk_23 := im_112 hR.1
      refine ok_b2 (ok_rm2 (C := fun (v : Int32) => 0 ≤ v.toInt ∧ v.toInt ≤ 1000) hs_8 (T_X12_saysNow ⟨by omega, by omega⟩ hs_8.1)) (fun v_24 s_25 (hq : (0 ≤ v_24.toInt ∧ v_24.toInt ≤ 1000) ∧ RM s s_25) => ?_)
      obtain ⟨hv_27, hs_26⟩ := hq
      have hk_28 := im_112 hs_26.1
      have hk_29 := rm_k 89 112 hs_26 (by decide)
      refine ok_b2 (ok_rm2 (C := fun (v : Int32) => 0 ≤ v.toInt ∧ v.toInt ≤ 1000) hs_26 (T_X12_saysNow ⟨by omega, by omega⟩ hs_26.1)) (fun v_30 s_31 (hq : (0 ≤ v_30.toInt ∧ v_30.toInt ≤ 1000) ∧ RM s s_31) => ?_)
      obtain ⟨hv_33, hs_32⟩ := hq
      refine ok_ite (fun h_34 => ?_) (fun h_35 => ?_)
      · have hc_36 := r_le (rfl : (v_24).toInt = _) (rfl : (v_30).toInt = _) h_34
        unfold F_X12_carries_39
        exact ok_some (lp_inl ⟨hs_32, (up_0 (x := x_6) (by omega) (by omega)), (show -1 ≤ (x_5).toInt ∧ (x_5).toInt < 12 from ⟨by omega, by omega⟩)⟩ (up_t (x := x_6) (by omega)))
      · have hc_37 := ge_t h_35
        have hc_38 := r_nle (rfl : (v_24).toInt = _) (rfl : (v_30).toInt = _) h_35
        unfold F_X12_carries_37
        unfold F_X12_carries_39
        exact ok_some (lp_inl ⟨hs_32, (up_0 (x := x_6) (by omega) (by omega)), (show -1 ≤ (x_6).toInt ∧ (x_6).toInt < 12 from ⟨by omega, by omega⟩)⟩ (up_t (x := x_6) (by omega)))
end
end
/-! 57.m -/
section
noncomputable section
theorem T_X12_away {a1 : Int32} {a2 : Int32} {s : mG} (hI : IM s) : ok (F_X12_away a1 a2 s) (fun τ => (True) ∧ RM s τ.2) := by
  have hR : RM s s := RM_refl hI
  unfold F_X12_away
  refine ok_b1 (T_X12_isGuest hR.1) (fun v_1 (hv_2 : QG v_1 a1 (s.1 89 112)) => ?_)
  refine ok_ite (fun h_3 => ?_) (fun h_4 => ?_)
  · have hc_5 := r_eq (rfl : (v_1).toInt = _) (by decide : (0 : Int32).toInt = 0) h_3
    unfold F_X12_away_29
    exact ok_some ⟨trivial, hR⟩
  · have hc_6 := r_ne (rfl : (v_1).toInt = _) (by decide : (0 : Int32).toInt = 0) h_4
    have hk_7 := im_112 hR.1
    have hk_8 := im_115 hR.1
    have hf_9 := hv_2.2 h_4
    refine ok_nn (ix_ok (r_add (by decide : (ci 3).toInt = 3) (rfl : (a1).toInt = _) (by omega) (by omega)) (by omega) (by omega)) ?_
    refine ok_ite (fun h_10 => ?_) (fun h_11 => ?_)
    · unfold F_X12_away_29
      exact ok_some ⟨trivial, hR⟩
    · refine ok_b1 (T_X12_isIn hR.1) (fun v_12 (hv_13 : QI v_12 a2 (ci 0) (c8 48)) => ?_)
      refine ok_ite (fun h_14 => ?_) (fun h_15 => ?_)
      · have hc_16 := r_eq (rfl : (v_12).toInt = _) (by decide : (0 : Int32).toInt = 0) h_14
        unfold F_X12_away_29
        exact ok_some ⟨trivial, hR⟩
      · have hc_17 := r_ne (rfl : (v_12).toInt = _) (by decide : (0 : Int32).toInt = 0) h_15
        have hf_18 := isin_f (a := a2) (by decide : (ci 0).toInt = 0) (by decide : (c8 48).toInt = 48) (hv_13.2 h_15)
        unfold F_X12_away_L38
        refine ok_whl (fun v => a1 = v.1 ∧ a2 = v.2.1 ∧ RM s v.2.2.2.2 ∧ 0 ≤ (v.2.2.2.1).toInt) (fun v => mUp v.2.2.2.1) ⟨rfl, rfl, hR, (show 0 ≤ (ci 0).toInt by rw [((by decide : (ci 0).toInt = 0) : (ci 0).toInt = 0)]; omega)⟩ (fun v hv => ?_)
        obtain ⟨x_23, x_24, x_25, x_26, s_27⟩ := v
        obtain ⟨rfl, rfl, rhs_28, rhn_29⟩ := hv
        have hs_28 : RM s s_27 := rhs_28
        have hn_29 : 0 ≤ x_26.toInt := rhn_29
        clear rhs_28 rhn_29
        show ok (F_X12_away_B38 a1 a2 x_25 x_26 s_27) _
        unfold F_X12_away_B38
        refine ok_ite (fun h_30 => ?_) (fun h_31 => ?_)
        · have hc_32 := r_le (rfl : (a2).toInt = _) (rfl : (x_26).toInt = _) h_30
          exact ok_some (lp_inr (⟨trivial, hs_28⟩))
        · have hc_33 := ge_t h_31
          have hc_34 := r_nle (rfl : (a2).toInt = _) (rfl : (x_26).toInt = _) h_31
          refine ok_nn (ix_ok (r_add (by decide : (c8 27).toInt = 27) (rfl : (a1).toInt = _) (by omega) (by omega)) (by omega) (by omega)) ?_
          refine ok_b1 (T_X12_lesser (by decide : (c16 999).toInt = 999) hs_28.1) (fun v_35 (hv_36 : v_35.toInt ≤ 999) => ?_)
          have hk_37 := im_112 hs_28.1
          have hk_38 := rm_k 89 112 hs_28 (by decide)
          refine ok_b2 (ok_rm2 (C := fun (v : Int32) => 0 ≤ v.toInt ∧ v.toInt ≤ 1000) hs_28 (T_X12_saysIn ⟨by omega, by omega⟩ hs_28.1)) (fun v_39 s_40 (hq : (0 ≤ v_39.toInt ∧ v_39.toInt ≤ 1000) ∧ RM s s_40) => ?_)
          obtain ⟨hv_42, hs_41⟩ := hq
          extract_lets +onlyGivenNames v_43
          clear_value v_43
          exact ok_some (lp_inl ⟨rfl, rfl, hs_41, (up_0 (x := x_26) (by omega) (by omega))⟩ (up_t (x := x_26) (by omega)))
theorem T_X12_of {a1 : Int32} {a2 : Int32} {s : mG} (hI : IM s) : ok (F_X12_of a1 a2 s) (fun τ => (True) ∧ RM s τ.2) := by
  have hR : RM s s := RM_refl hI
  unfold F_X12_of
  refine ok_b1 (T_X12_isGuest hR.1) (fun v_1 (hv_2 : QG v_1 a1 (s.1 89 112)) => ?_)
  refine ok_ite (fun h_3 => ?_) (fun h_4 => ?_)
  · have hc_5 := r_eq (rfl : (v_1).toInt = _) (by decide : (0 : Int32).toInt = 0) h_3
    exact ok_some ⟨trivial, hR⟩
  · have hc_6 := r_ne (rfl : (v_1).toInt = _) (by decide : (0 : Int32).toInt = 0) h_4
    have hk_7 := im_112 hR.1
    have hk_8 := im_115 hR.1
    have hf_9 := hv_2.2 h_4
    refine ok_ite (fun h_10 => ?_) (fun h_11 => ?_)
    · have hc_12 := r_eq (rfl : (a2).toInt = _) (by decide : (ci 0).toInt = 0) h_10
      refine ok_nn (ix_ok (r_add (by decide : (c8 119).toInt = 119) (rfl : (a1).toInt = _) (by omega) (by omega)) (by omega) (by omega)) ?_
      extract_lets +onlyGivenNames v_13
      clear_value v_13
      exact ok_some ⟨trivial, hR⟩
    · have hc_14 := r_ne (rfl : (a2).toInt = _) (by decide : (ci 0).toInt = 0) h_11
      refine ok_ite (fun h_15 => ?_) (fun h_16 => ?_)
      · have hc_17 := r_eq (rfl : (a2).toInt = _) (by decide : (ci 1).toInt = 1) h_15
        refine ok_nn (ix_ok (r_add (by decide : (c16 131).toInt = 131) (rfl : (a1).toInt = _) (by omega) (by omega)) (by omega) (by omega)) ?_
        extract_lets +onlyGivenNames v_18
        clear_value v_18
        exact ok_some ⟨trivial, hR⟩
      · have hc_19 := r_ne (rfl : (a2).toInt = _) (by decide : (ci 1).toInt = 1) h_16
        refine ok_ite (fun h_20 => ?_) (fun h_21 => ?_)
        · have hc_22 := r_eq (rfl : (a2).toInt = _) (by decide : (ci 2).toInt = 2) h_20
          refine ok_nn (ix_ok (r_add (by decide : (ci 3).toInt = 3) (rfl : (a1).toInt = _) (by omega) (by omega)) (by omega) (by omega)) ?_
          extract_lets +onlyGivenNames v_23
          clear_value v_23
          exact ok_some ⟨trivial, hR⟩
        · have hc_24 := r_ne (rfl : (a2).toInt = _) (by decide : (ci 2).toInt = 2) h_21
          refine ok_ite (fun h_25 => ?_) (fun h_26 => ?_)
          · have hc_27 := r_eq (rfl : (a2).toInt = _) (by decide : (ci 3).toInt = 3) h_25
            refine ok_nn (ix_ok (r_add (by decide : (c8 15).toInt = 15) (rfl : (a1).toInt = _) (by omega) (by omega)) (by omega) (by omega)) ?_
            extract_lets +onlyGivenNames v_28
            clear_value v_28
            exact ok_some ⟨trivial, hR⟩
          · have hc_29 := r_ne (rfl : (a2).toInt = _) (by decide : (ci 3).toInt = 3) h_26
            refine ok_ite (fun h_30 => ?_) (fun h_31 => ?_)
            · have hc_32 := r_eq (rfl : (a2).toInt = _) (by decide : (ci 4).toInt = 4) h_30
              refine ok_nn (ix_ok (r_add (by decide : (c8 27).toInt = 27) (rfl : (a1).toInt = _) (by omega) (by omega)) (by omega) (by omega)) ?_
              extract_lets +onlyGivenNames v_33
              clear_value v_33
              exact ok_some ⟨trivial, hR⟩
            · have hc_34 := r_ne (rfl : (a2).toInt = _) (by decide : (ci 4).toInt = 4) h_31
              refine ok_ite (fun h_35 => ?_) (fun h_36 => ?_)
              · have hc_37 := r_eq (rfl : (a2).toInt = _) (by decide : (ci 5).toInt = 5) h_35
                have hk_38 := im_1049 hR.1
                have hk_39 := im_118 hR.1
                refine ok_b2 (ok_rm2 (C := fun (v : Int64) => 0 ≤ v.toInt ∧ v.toInt ≤ 1000000) hR (T_X12_sureOf ⟨by omega, by omega⟩ hR.1)) (fun v_40 s_41 (hq : (0 ≤ v_40.toInt ∧ v_40.toInt ≤ 1000000) ∧ RM s s_41) => ?_)
                obtain ⟨hv_43, hs_42⟩ := hq
                exact ok_some ⟨trivial, hs_42⟩
              · have hc_44 := r_ne (rfl : (a2).toInt = _) (by decide : (ci 5).toInt = 5) h_36
                refine ok_b1 (T_X12_isIn hR.1) (fun v_45 (hv_46 : QI v_45 a2 (c8 6) (c8 11)) => ?_)
                refine ok_ite (fun h_47 => ?_) (fun h_48 => ?_)
                · have hc_49 := r_eq (rfl : (v_45).toInt = _) (by decide : (0 : Int32).toInt = 0) h_47
                  exact ok_some ⟨trivial, hR⟩
                · have hc_50 := r_ne (rfl : (v_45).toInt = _) (by decide : (0 : Int32).toInt = 0) h_48
                  have hf_51 := isin_f (a := a2) (by decide : (c8 6).toInt = 6) (by decide : (c8 11).toInt = 11) (hv_46.2 h_48)
                  refine ok_b2 (ok_rm2 (C := fun (v : Int32) => 0 ≤ v.toInt ∧ v.toInt ≤ 1000) hR (T_X12_saysNow ⟨by omega, by omega⟩ hR.1)) (fun v_52 s_53 (hq : (0 ≤ v_52.toInt ∧ v_52.toInt ≤ 1000) ∧ RM s s_53) => ?_)
                  obtain ⟨hv_55, hs_54⟩ := hq
                  exact ok_some ⟨trivial, hs_54⟩
theorem T_X12_hook {s : mG} {a1 : Int32} (hI : IM s) : ok (F_X12_hook s a1) (fun (v : Int32) => True) := by
  have hR : RM s s := RM_refl hI
  unfold F_X12_hook
  refine ok_b1 (T_X12_isGuest hR.1) (fun v_1 (hv_2 : QG v_1 a1 (s.1 89 112)) => ?_)
  refine ok_ite (fun h_3 => ?_) (fun h_4 => ?_)
  · have hc_5 := r_eq (rfl : (v_1).toInt = _) (by decide : (0 : Int32).toInt = 0) h_3
    exact ok_some trivial
  · have hc_6 := r_ne (rfl : (v_1).toInt = _) (by decide : (0 : Int32).toInt = 0) h_4
    have hk_7 := im_112 hR.1
    have hk_8 := im_115 hR.1
    have hf_9 := hv_2.2 h_4
    refine ok_b1 (T_X12_keyOn hR.1) (fun v_10 _ => ?_)
    exact ok_some trivial
theorem T_X12_sign {s : mG} {a1 : Int32} {a2 : Int32} (hI : IM s) : ok (F_X12_sign s a1 a2) (fun (v : Int32) => True) := by
  have hR : RM s s := RM_refl hI
  unfold F_X12_sign
  generalize (a2 - (ci 2)) = w
  refine ok_b1 (T_X12_isSign hR.1) (fun v_1 (hv_2 : QG v_1 a1 (s.1 89 115)) => ?_)
  refine ok_ite (fun h_3 => ?_) (fun h_4 => ?_)
  · have hc_5 := r_eq (rfl : (v_1).toInt = _) (by decide : (0 : Int32).toInt = 0) h_3
    exact ok_some trivial
  · have hc_6 := r_ne (rfl : (v_1).toInt = _) (by decide : (0 : Int32).toInt = 0) h_4
    have hk_7 := im_112 hR.1
    have hk_8 := im_115 hR.1
    have hf_9 := hv_2.2 h_4
    refine ok_b1 (T_X12_isIn hR.1) (fun v_10 (hv_11 : QI v_10 a2 (ci 0) (ci 1)) => ?_)
    refine ok_ite (fun h_12 => ?_) (fun h_13 => ?_)
    · have hc_14 := r_eq (rfl : (v_10).toInt = _) (by decide : (0 : Int32).toInt = 0) h_12
      refine ok_b1 (T_X12_isGuest hR.1) (fun v_15 (hv_16 : QG v_15 w (s.1 89 112)) => ?_)
      refine ok_ite (fun h_17 => ?_) (fun h_18 => ?_)
      · have hc_19 := r_eq (rfl : (v_15).toInt = _) (by decide : (0 : Int32).toInt = 0) h_17
        exact ok_some trivial
      · have hc_20 := r_ne (rfl : (v_15).toInt = _) (by decide : (0 : Int32).toInt = 0) h_18
        have hf_21 := hv_16.2 h_18
        refine ok_nn (ix_ok (r_add (r_add (by decide : (c8 39).toInt = 39) (r_mul (by decide : (c8 6).toInt = 6) (rfl : w.toInt = _) (by omega) (by omega)) (by omega) (by omega)) (rfl : (a1).toInt = _) (by omega) (by omega)) (by omega) (by omega)) ?_
        exact ok_some trivial
    · have hc_22 := r_ne (rfl : (v_10).toInt = _) (by decide : (0 : Int32).toInt = 0) h_13
      have hf_23 := isin_f (a := a2) (by decide : (ci 0).toInt = 0) (by decide : (ci 1).toInt = 1) (hv_11.2 h_13)
      refine ok_nn (ix_ok (r_add (r_add (by decide : (c16 143).toInt = 143) (r_mul (by decide : (ci 2).toInt = 2) (rfl : (a1).toInt = _) (by omega) (by omega)) (by omega) (by omega)) (rfl : (a2).toInt = _) (by omega) (by omega)) (by omega) (by omega)) ?_
      exact ok_some trivial
theorem T_X12_book {s : mG} {a1 : Int32} {a2 : Int32} (hI : IM s) : ok (F_X12_book s a1 a2) (fun (v : Int32) => True) := by
  have hR : RM s s := RM_refl hI
  unfold F_X12_book
  have hk_1 := im_2 hR.1
  refine ok_b1 (T_X12_isIn hR.1) (fun v_2 (hv_3 : QI v_2 a1 (ci 0) ((s.1 89 2) - (ci 1))) => ?_)
  refine ok_ite (fun h_4 => ?_) (fun h_5 => ?_)
  · have hc_6 := r_eq (rfl : (v_2).toInt = _) (by decide : (0 : Int32).toInt = 0) h_4
    unfold F_X12_book_42
    exact ok_some trivial
  · have hc_7 := r_ne (rfl : (v_2).toInt = _) (by decide : (0 : Int32).toInt = 0) h_5
    have hf_8 := isin_f (a := a1) (by decide : (ci 0).toInt = 0) (r_sub (rfl : (s.1 89 2).toInt = _) (by decide : (ci 1).toInt = 1) (by omega) (by omega)) (hv_3.2 h_5)
    refine ok_b1 (T_X12_isIn hR.1) (fun v_9 (hv_10 : QI v_9 a2 (ci 0) (ci 4)) => ?_)
    refine ok_ite (fun h_11 => ?_) (fun h_12 => ?_)
    · have hc_13 := r_eq (rfl : (v_9).toInt = _) (by decide : (0 : Int32).toInt = 0) h_11
      unfold F_X12_book_42
      exact ok_some trivial
    · have hc_14 := r_ne (rfl : (v_9).toInt = _) (by decide : (0 : Int32).toInt = 0) h_12
      have hf_15 := isin_f (a := a2) (by decide : (ci 0).toInt = 0) (by decide : (ci 4).toInt = 4) (hv_10.2 h_12)
      refine ok_nn (ix_ok (r_add (r_add (by decide : (c16 235).toInt = 235) (r_mul (by decide : (ci 5).toInt = 5) (rfl : (a1).toInt = _) (by omega) (by omega)) (by omega) (by omega)) (rfl : (a2).toInt = _) (by omega) (by omega)) (by omega) (by omega)) ?_
      exact ok_some trivial
theorem T_X12_outs {s : mG} (hI : IM s) : ok (F_X12_outs s) (fun (v : Int32) => True) := by
  have hR : RM s s := RM_refl hI
  unfold F_X12_outs
  unfold F_X12_outs_L4
  refine ok_whl (fun v => 0 ≤ (v.2).toInt) (fun v => mUp v.2) (show 0 ≤ (ci 0).toInt by rw [((by decide : (ci 0).toInt = 0) : (ci 0).toInt = 0)]; omega) (fun v hv => ?_)
  obtain ⟨x_2, x_3⟩ := v
  have hn_4 : 0 ≤ x_3.toInt := hv
  show ok (F_X12_outs_B4 s x_2 x_3) _
  unfold F_X12_outs_B4
  refine ok_ite (fun h_5 => ?_) (fun h_6 => ?_)
  · have hk_7 := im_112 hR.1
    have hc_8 := r_le (rfl : (s.1 89 112).toInt = _) (rfl : (x_3).toInt = _) h_5
    exact ok_some (lp_inr (trivial))
  · have hk_9 := im_112 hR.1
    have hc_10 := r_nle (rfl : (s.1 89 112).toInt = _) (rfl : (x_3).toInt = _) h_6
    refine ok_nn (ix_ok (r_add (by decide : (ci 3).toInt = 3) (rfl : (x_3).toInt = _) (by omega) (by omega)) (by omega) (by omega)) ?_
    extract_lets +onlyGivenNames v_11
    clear_value v_11
    exact ok_some (lp_inl (up_0 (x := x_3) (by omega) (by omega)) (up_t (x := x_3) (by omega)))
theorem T_X12_hooksWithKeys {s : mG} (hI : IM s) : ok (F_X12_hooksWithKeys s) (fun (v : Int32) => True) := by
  have hR : RM s s := RM_refl hI
  unfold F_X12_hooksWithKeys
  unfold F_X12_hooksWithKeys_L4
  refine ok_whl (fun v => 0 ≤ (v.2).toInt) (fun v => mUp v.2) (show 0 ≤ (ci 0).toInt by rw [((by decide : (ci 0).toInt = 0) : (ci 0).toInt = 0)]; omega) (fun v hv => ?_)
  obtain ⟨x_1, x_2⟩ := v
  have hn_3 : 0 ≤ x_2.toInt := hv
  show ok (F_X12_hooksWithKeys_B4 s x_1 x_2) _
  unfold F_X12_hooksWithKeys_B4
  refine ok_ite (fun h_4 => ?_) (fun h_5 => ?_)
  · have hk_6 := im_112 hR.1
    have hc_7 := r_le (rfl : (s.1 89 112).toInt = _) (rfl : (x_2).toInt = _) h_4
    exact ok_some (lp_inr (trivial))
  · have hk_8 := im_112 hR.1
    have hc_9 := r_nle (rfl : (s.1 89 112).toInt = _) (rfl : (x_2).toInt = _) h_5
    refine ok_nn (ix_ok (r_add (by decide : (c8 15).toInt = 15) (rfl : (x_2).toInt = _) (by omega) (by omega)) (by omega) (by omega)) ?_
    refine ok_ite (fun h_10 => ?_) (fun h_11 => ?_)
    · unfold F_X12_hooksWithKeys_44
      exact ok_some (lp_inl (up_0 (x := x_2) (by omega) (by omega)) (up_t (x := x_2) (by omega)))
    · refine ok_nn (ix_ok (r_add (by decide : (c8 15).toInt = 15) (rfl : (x_2).toInt = _) (by omega) (by omega)) (by omega) (by omega)) ?_
      unfold F_X12_hooksWithKeys_44
      exact ok_some (lp_inl (up_0 (x := x_2) (by omega) (by omega)) (up_t (x := x_2) (by omega)))
end
end
/-! 57.n -/
section
noncomputable section
theorem T_X12_look {s : mG} {a1 : Int32} (hI : IM s) : ok (F_X12_look s a1) (fun (v : Int32) => True) := by
  have hR : RM s s := RM_refl hI
  unfold F_X12_look
  refine ok_ite (fun h_1 => ?_) (fun h_2 => ?_)
  · have hc_3 := r_eq (rfl : (a1).toInt = _) (by decide : (ci 0).toInt = 0) h_1
    exact ok_some trivial
  · have hc_4 := r_ne (rfl : (a1).toInt = _) (by decide : (ci 0).toInt = 0) h_2
    refine ok_ite (fun h_5 => ?_) (fun h_6 => ?_)
    · have hc_7 := r_eq (rfl : (a1).toInt = _) (by decide : (ci 1).toInt = 1) h_5
      exact ok_some trivial
    · have hc_8 := r_ne (rfl : (a1).toInt = _) (by decide : (ci 1).toInt = 1) h_6
      refine ok_ite (fun h_9 => ?_) (fun h_10 => ?_)
      · have hc_11 := r_eq (rfl : (a1).toInt = _) (by decide : (ci 2).toInt = 2) h_9
        refine ok_b1 (T_X12_outs hR.1) (fun v_12 _ => ?_)
        exact ok_some trivial
      · have hc_14 := r_ne (rfl : (a1).toInt = _) (by decide : (ci 2).toInt = 2) h_10
        refine ok_ite (fun h_15 => ?_) (fun h_16 => ?_)
        · have hc_17 := r_eq (rfl : (a1).toInt = _) (by decide : (ci 3).toInt = 3) h_15
          refine ok_b1 (T_X12_hooksWithKeys hR.1) (fun v_18 _ => ?_)
          exact ok_some trivial
        · have hc_20 := r_ne (rfl : (a1).toInt = _) (by decide : (ci 3).toInt = 3) h_16
          refine ok_ite (fun h_21 => ?_) (fun h_22 => ?_)
          · have hc_23 := r_eq (rfl : (a1).toInt = _) (by decide : (ci 4).toInt = 4) h_21
            exact ok_some trivial
          · have hc_24 := r_ne (rfl : (a1).toInt = _) (by decide : (ci 4).toInt = 4) h_22
            refine ok_ite (fun h_25 => ?_) (fun h_26 => ?_)
            · have hc_27 := r_eq (rfl : (a1).toInt = _) (by decide : (ci 5).toInt = 5) h_25
              exact ok_some trivial
            · have hc_28 := r_ne (rfl : (a1).toInt = _) (by decide : (ci 5).toInt = 5) h_26
              refine ok_ite (fun h_29 => ?_) (fun h_30 => ?_)
              · have hc_31 := r_eq (rfl : (a1).toInt = _) (by decide : (ci 6).toInt = 6) h_29
                exact ok_some trivial
              · have hc_32 := r_ne (rfl : (a1).toInt = _) (by decide : (ci 6).toInt = 6) h_30
                refine ok_ite (fun h_33 => ?_) (fun h_34 => ?_)
                · have hc_35 := r_eq (rfl : (a1).toInt = _) (by decide : (ci 7).toInt = 7) h_33
                  exact ok_some trivial
                · have hc_36 := r_ne (rfl : (a1).toInt = _) (by decide : (ci 7).toInt = 7) h_34
                  refine ok_ite (fun h_37 => ?_) (fun h_38 => ?_)
                  · have hc_39 := r_eq (rfl : (a1).toInt = _) (by decide : (ci 8).toInt = 8) h_37
                    exact ok_some trivial
                  · have hc_40 := r_ne (rfl : (a1).toInt = _) (by decide : (ci 8).toInt = 8) h_38
                    refine ok_ite (fun h_41 => ?_) (fun h_42 => ?_)
                    · have hc_43 := r_eq (rfl : (a1).toInt = _) (by decide : (ci 9).toInt = 9) h_41
                      exact ok_some trivial
                    · have hc_44 := r_ne (rfl : (a1).toInt = _) (by decide : (ci 9).toInt = 9) h_42
                      refine ok_ite (fun h_45 => ?_) (fun h_46 => ?_)
                      · have hc_47 := r_eq (rfl : (a1).toInt = _) (by decide : (ci 10).toInt = 10) h_45
                        exact ok_some trivial
                      · have hc_48 := r_ne (rfl : (a1).toInt = _) (by decide : (ci 10).toInt = 10) h_46
                        refine ok_ite (fun h_49 => ?_) (fun h_50 => ?_)
                        · have hc_51 := r_eq (rfl : (a1).toInt = _) (by decide : (ci 11).toInt = 11) h_49
                          exact ok_some trivial
                        · have hc_52 := r_ne (rfl : (a1).toInt = _) (by decide : (ci 11).toInt = 11) h_50
                          refine ok_ite (fun h_53 => ?_) (fun h_54 => ?_)
                          · have hc_55 := r_eq (rfl : (a1).toInt = _) (by decide : (ci 12).toInt = 12) h_53
                            exact ok_some trivial
                          · have hc_56 := r_ne (rfl : (a1).toInt = _) (by decide : (ci 12).toInt = 12) h_54
                            refine ok_ite (fun h_57 => ?_) (fun h_58 => ?_)
                            · have hc_59 := r_eq (rfl : (a1).toInt = _) (by decide : (ci 13).toInt = 13) h_57
                              exact ok_some trivial
                            · have hc_60 := r_ne (rfl : (a1).toInt = _) (by decide : (ci 13).toInt = 13) h_58
                              exact ok_some trivial
end
end
/-! 58.a.mut -/
section
/-! THE REFERENCE: what changes its house -/
theorem mu_cellP {s : mG} {i j k l : Nat} {v : Int32} (h : j ≠ i ∨ l ≠ k) : ((mu s.1 i k v, s.2) : mG).1 j l = s.1 j l := mu_cell h
theorem mu_rowP {s : mG} {i j k : Nat} {v : Int32} (h : j ≠ i) : ((mu s.1 i k v, s.2) : mG).1 j = s.1 j := mu_row h
def RW (s s' : mG) : Prop := IM s' ∧ (∀ j, j < 88 → s'.1 j = s.1 j) ∧ s'.1 88 15 = s.1 88 15
/-- guests' number, rooms, callers -/
def SK (j : Nat) : Prop := j = 112 ∨ j = 118 ∨ (203 ≤ j ∧ j ≤ 234) ∨ j = 1049 ∨ (1870 ≤ j ∧ j ≤ 1893)
def RX (s s' : mG) : Prop := RW s s' ∧ ∀ j, SK j → s'.1 89 j = s.1 89 j
theorem RX_112 {s s' : mG} (h : RX s s') : s'.1 89 112 = s.1 89 112 := h.2 112 (Or.inl rfl)
theorem RW_refl {s : mG} (h : IM s) : RW s s := ⟨h, fun _ _ => rfl, rfl⟩
theorem RX_refl {s : mG} (h : IM s) : RX s s := ⟨RW_refl h, fun _ _ => rfl⟩
theorem RW_tr {s s' s2 : mG} (h : RW s s') (k : RW s' s2) : RW s s2 := ⟨k.1, fun j hj => (k.2.1 j hj).trans (h.2.1 j hj), k.2.2.trans h.2.2⟩
theorem RX_tr {s s' s2 : mG} (h : RX s s') (k : RX s' s2) : RX s s2 := ⟨RW_tr h.1 k.1, fun j hj => (k.2 j hj).trans (h.2 j hj)⟩
theorem RX_RM {s s' : mG} (h : RM s s') : RX s s' := ⟨⟨h.1, fun j hj => h.2.1 j (by omega) (by omega), h.2.2.2.2⟩, fun _ _ => by rw [h.2.1 89 (by decide) (by decide)]⟩
theorem ok_rx {s0 s : mG} {o : Option mG} (h : RX s0 s) (k : ok o (RX s)) : ok o (RX s0) := ok_mono k fun _ q => RX_tr h q
theorem ok_rx2 {α : Type} {s0 s : mG} {o : Option (α × mG)} (h : RX s0 s) (k : ok o (fun τ => True ∧ RX s τ.2)) : ok o (fun τ => True ∧ RX s0 τ.2) := ok_mono k fun _ q => ⟨q.1, RX_tr h q.2⟩
def kW (j : Nat) : Prop := j = 112 ∨ (115 ≤ j ∧ j ≤ 130) ∨ (143 ≤ j ∧ j ≤ 154) ∨ (203 ≤ j ∧ j ≤ 234 ∧ j % 4 = 3) ∨ (985 ≤ j ∧ j ≤ 1032) ∨ (1049 ≤ j ∧ j ≤ 1869) ∨ (1870 ≤ j ∧ j ≤ 1893 ∧ j % 3 = 1)
def kK (j : Nat) : Prop := j = 2 ∨ (15 ≤ j ∧ j ≤ 26)
def fw (j : Nat) : Prop := ¬ kW j ∧ ¬ kK j
def fr (j : Nat) : Prop := ¬ kW j ∧ ¬ kK j ∧ ¬ SK j
theorem LawOK_congr {f f' : Nat → Int32} {k : Nat} (hk : k < 16) (h : ∀ j, (985 ≤ j ∧ j ≤ 1032) ∨ (1049 ≤ j ∧ j ≤ 1869) → f' j = f j) (q : LawOK f k) : LawOK f' k := by
  obtain ⟨a, b, c, hc, hab, hbc, ea, eb, ec, r1, r2⟩ := q
  refine ⟨a, b, c, hc, hab, hbc, (h _ (by omega)).trans ea, (h _ (by omega)).trans eb, (h _ (by omega)).trans ec, Rc_congr _ _ _ _ (fun j h1 h2 => h _ (by omega)) r1, ?_⟩
  rcases r2 with e | r2
  · exact Or.inl e
  · exact Or.inr (Rc_congr _ _ _ _ (fun j h1 h2 => h _ (by omega)) r2)
theorem WI_congr {f f' : Nat → Int32} (h : ∀ j, kW j → f' j = f j) (q : WI f) : WI f' := by
  obtain ⟨q1, q2, q3, q4, q5, q6, q7, q8, q9, q10, q11⟩ := q
  have e1 := h 112 (by unfold kW; omega)
  have e2 := h 115 (by unfold kW; omega)
  have e3 := h 116 (by unfold kW; omega)
  have e4 := h 117 (by unfold kW; omega)
  have e5 := h 118 (by unfold kW; omega)
  have e6 := h 1049 (by unfold kW; omega)
  refine ⟨by rw [e1]; exact q1, by rw [e2]; exact q2, by rw [e3]; exact q3, by rw [e4]; exact q4, by rw [e5]; exact q5, by rw [e6]; exact q6, fun k hk => ?_, fun k hk hl => ?_, fun k hk hl => ?_, fun k hk hl => ?_, fun k hk hl => ?_⟩
  · rw [h (119 + k) (by unfold kW; omega)]; exact q7 k hk
  · rw [e2] at hl; rw [h (143 + k) (by unfold kW; omega)]; exact q8 k hk hl
  · rw [e5] at hl; rw [h (203 + 4 * k) (by unfold kW; omega)]; exact q9 k hk hl
  · rw [e6] at hl; rw [h (1870 + 3 * k) (by unfold kW; omega)]; exact q10 k hk hl
  · rw [e4] at hl; exact LawOK_congr hk (fun j hj => h j (by unfold kW; omega)) (q11 k hk hl)
theorem KI_congr {n : Int} {f f' : Nat → Int32} (h : ∀ j, kK j → f' j = f j) (q : KI n f) : KI n f' := by
  obtain ⟨q1, q2, q3⟩ := q
  have e1 := h 2 (by unfold kK; omega)
  refine ⟨by rw [e1]; exact q1, fun a ha hn => ?_, fun a b ha hb hn hm he hz => ?_⟩
  · rw [h (15 + a) (by unfold kK; omega)]; exact q2 a ha hn
  · rw [h (15 + a) (by unfold kK; omega), h (15 + b) (by unfold kK; omega)] at he
    rw [h (15 + a) (by unfold kK; omega)] at hz
    exact q3 a b ha hb hn hm he hz
theorem IM_mk {s s' : mG} (h : IM s) (hW : WI (s'.1 89)) (hK : KI (s'.1 89 112).toInt (s'.1 89)) (h112 : s'.1 89 112 = s.1 89 112) (h90 : s'.1 90 = s.1 90) (h91 : s'.1 91 = s.1 91) (h3 : s'.1 88 3 = s.1 88 3) (h4 : s'.1 88 4 = s.1 88 4) (h15 : s'.1 88 15 = s.1 88 15) : IM s' := by
  refine ⟨hW, hK, ?_, ?_, ?_, ?_⟩
  · rw [h4, h90]; exact h.2.2.1
  · rw [h3]; exact h.2.2.2.1
  · rw [h3, h91, h112]; exact h.2.2.2.2.1
  · rw [h15]; exact h.2.2.2.2.2
theorem IM_free {s : mG} {k : Nat} {v : Int32} (h : IM s) (hk : fw k) : IM (mu s.1 89 k v, s.2) := by
  have e112 : (mu s.1 89 k v, s.2).1 89 112 = s.1 89 112 := mu_cellP (Or.inr fun e => hk.1 (e ▸ (by unfold kW; omega : kW 112)))
  refine IM_mk h ?_ ?_ e112 (mu_rowP (by decide)) (mu_rowP (by decide)) (mu_cellP (by omega)) (mu_cellP (by omega)) (mu_cellP (by omega))
  · exact WI_congr (fun j hj => mu_cellP (Or.inr fun e => hk.1 (e ▸ hj))) h.1
  · rw [e112]; exact KI_congr (fun j hj => mu_cellP (Or.inr fun e => hk.2 (e ▸ hj))) h.2.1
theorem RX_mk {s0 s s' : mG} (h : RX s0 s) (hI : IM s') (h1 : ∀ j, j < 88 → s'.1 j = s.1 j) (h2 : s'.1 88 15 = s.1 88 15) (h3 : ∀ j, SK j → s'.1 89 j = s.1 89 j) : RX s0 s' := RX_tr h ⟨⟨hI, h1, h2⟩, h3⟩
theorem RW_mk {s0 s s' : mG} (h : RW s0 s) (hI : IM s') (h1 : ∀ j, j < 88 → s'.1 j = s.1 j) (h2 : s'.1 88 15 = s.1 88 15) : RW s0 s' := RW_tr h ⟨hI, h1, h2⟩
theorem RW_fe {s0 s : mG} {e v : Int32} {m : Int} (h : RW s0 s) (he : e.toInt = m) (hk : fw m.toNat) : RW s0 (mu s.1 89 e.toNatClampNeg v, s.2) := by
  rw [t_nat, he]; exact RW_mk h (IM_free h.1 hk) (fun j hj => mu_rowP (by omega)) (mu_cellP (by omega))
theorem RX_free {s0 s : mG} {k : Nat} {v : Int32} (h : RX s0 s) (hk : fr k) : RX s0 (mu s.1 89 k v, s.2) :=
  RX_mk h (IM_free h.1.1 ⟨hk.1, hk.2.1⟩) (fun j hj => mu_rowP (by omega)) (mu_cellP (by omega)) (fun j hj => mu_cellP (Or.inr fun e => hk.2.2 (e ▸ hj)))
theorem RX_fe {s0 s : mG} {e v : Int32} {m : Int} (h : RX s0 s) (he : e.toInt = m) (hk : fr m.toNat) : RX s0 (mu s.1 89 e.toNatClampNeg v, s.2) := by
  rw [t_nat, he]; exact RX_free h hk
theorem IM_forget {s : mG} (h : IM s) : IM (mu s.1 88 3 (ci 0), s.2) := by
  have e : ∀ j, j ≠ 88 → (mu s.1 88 3 (ci 0), s.2).1 j = s.1 j := fun j hj => mu_rowP hj
  have e3 : (mu s.1 88 3 (ci 0), s.2).1 88 3 = ci 0 := mu_sameP
  have z : (ci 0).toInt = 0 := by decide
  refine ⟨?_, ?_, ?_, ?_, ?_, ?_⟩
  · rw [e 89 (by decide)]; exact h.1
  · rw [e 89 (by decide)]; exact h.2.1
  · rw [e 90 (by decide), show (mu s.1 88 3 (ci 0), s.2).1 88 4 = s.1 88 4 from mu_cellP (by decide)]; exact h.2.2.1
  · rw [e3, z]; omega
  · intro j _ hj; rw [e3, z] at hj; omega
  · rw [show (mu s.1 88 3 (ci 0), s.2).1 88 15 = s.1 88 15 from mu_cellP (by decide)]; exact h.2.2.2.2.2
theorem RX_forget {s0 s : mG} (h : RX s0 s) : RX s0 (mu s.1 88 3 (ci 0), s.2) :=
  RX_mk h (IM_forget h.1.1) (fun j hj => mu_rowP (by omega)) (mu_cellP (by omega)) (fun j _ => mu_cellP (by omega))
theorem T_X12_forgets {s : mG} (hI : IM s) : ok (F_X12_forgets s) (RX s) := by
  unfold F_X12_forgets
  exact ok_some (RX_forget (RX_refl hI))
theorem T_X12_state {a1 : Int32} {s : mG} (hI : IM s) : ok (F_X12_state a1 s) (fun τ => True ∧ RX s τ.2) := by
  unfold F_X12_state
  extract_lets +onlyGivenNames s1
  have h1 : RX s s1 := RX_free (RX_refl hI) (by unfold fr kW kK SK; omega)
  clear_value s1
  refine ok_b1 (ok_rx h1 (T_X12_forgets h1.1.1)) (fun s3 (h3 : RX s s3) => ?_)
  exact ok_some ⟨trivial, h3⟩
theorem T_X12_draw {a1 : Int32} {s : mG} (h : ¬ a1 = 0) (hI : IM s) : ok (F_X12_draw a1 s) (fun τ => True ∧ RX s τ.2) := by
  unfold F_X12_draw
  extract_lets +onlyGivenNames s1
  have h1 : RX s s1 := RX_free (RX_refl hI) (by unfold fr kW kK SK; omega)
  clear_value s1
  exact ok_nn h (ok_some ⟨trivial, h1⟩)
theorem n1000 : ¬ c16 1000 = 0 := by decide
theorem IM_2 {s : mG} {v : Int32} (h : IM s) (hv : 0 ≤ v.toInt ∧ v.toInt ≤ 150) : IM (mu s.1 89 2 v, s.2) := by
  have e112 : (mu s.1 89 2 v, s.2).1 89 112 = s.1 89 112 := mu_cellP (by decide)
  refine IM_mk h ?_ ?_ e112 (mu_rowP (by decide)) (mu_rowP (by decide)) (mu_cellP (by omega)) (mu_cellP (by omega)) (mu_cellP (by omega))
  · exact WI_congr (fun j hj => mu_cellP (Or.inr fun e => by subst e; unfold kW at hj; omega)) h.1
  · rw [e112]
    have c : ∀ a, (mu s.1 89 2 v, s.2).1 89 (15 + a) = s.1 89 (15 + a) := fun a => mu_cellP (by omega)
    refine ⟨?_, fun a ha hn => ?_, fun a b ha hb hn hm he hz => ?_⟩
    · rw [show (mu s.1 89 2 v, s.2).1 89 2 = v from mu_sameP]; exact hv
    · rw [c]; exact h.2.1.2.1 a ha hn
    · rw [c, c] at he; rw [c] at hz; exact h.2.1.2.2 a b ha hb hn hm he hz
theorem RX_2 {s0 s : mG} {v : Int32} (h : RX s0 s) (hv : 0 ≤ v.toInt ∧ v.toInt ≤ 150) : RX s0 (mu s.1 89 2 v, s.2) :=
  RX_mk h (IM_2 h.1.1 hv) (fun j hj => mu_rowP (by omega)) (mu_cellP (by omega)) (fun j hj => mu_cellP (by unfold SK at hj; omega))
theorem keep2 {s : mG} {e v : Int32} {m : Int} (he : e.toInt = m) (hm : 3 ≤ m) : ((mu s.1 89 e.toNatClampNeg v, s.2) : mG).1 89 2 = s.1 89 2 := mu_cellP (Or.inr (by rw [t_nat, he]; omega))
theorem T_X12_notes {a1 a2 a3 a4 : Int32} {s : mG} (hI : IM s) : ok (F_X12_notes a1 a2 a3 a4 s) (RX s) := by
  unfold F_X12_notes
  have i := im_2 hI
  refine ok_ite (fun _ => ok_some (RX_refl hI)) (fun c => ?_)
  have c2 := r_ne (rfl : (s.1 89 2).toInt = _) (by decide : (c16 150).toInt = 150) c
  extract_lets +onlyGivenNames v2
  have e : v2.toInt = 235 + 5 * (s.1 89 2).toInt := r_add (by decide) (r_mul (by decide) rfl (by omega) (by omega)) (by omega) (by omega)
  clear_value v2
  refine ok_nn (ix_ok e (by omega) (by omega)) ?_
  extract_lets +onlyGivenNames s4
  have h4 : RX s s4 := RX_fe (RX_refl hI) e (by unfold fr kW kK SK; omega)
  have b4 : s4.1 89 2 = s.1 89 2 := keep2 e (by omega)
  clear_value s4
  refine ok_nn (ix_ok (r_add e (by decide : (ci 1).toInt = 1) (by omega) (by omega)) (by omega) (by omega)) ?_
  extract_lets +onlyGivenNames s6
  have h6 : RX s s6 := RX_fe h4 (r_add e (by decide : (ci 1).toInt = 1) (by omega) (by omega)) (by unfold fr kW kK SK; omega)
  have b6 : s6.1 89 2 = s4.1 89 2 := keep2 (r_add e (by decide : (ci 1).toInt = 1) (by omega) (by omega)) (by omega)
  clear_value s6
  refine ok_nn (ix_ok (r_add e (by decide : (ci 2).toInt = 2) (by omega) (by omega)) (by omega) (by omega)) ?_
  extract_lets +onlyGivenNames s8
  have h8 : RX s s8 := RX_fe h6 (r_add e (by decide : (ci 2).toInt = 2) (by omega) (by omega)) (by unfold fr kW kK SK; omega)
  have b8 : s8.1 89 2 = s6.1 89 2 := keep2 (r_add e (by decide : (ci 2).toInt = 2) (by omega) (by omega)) (by omega)
  clear_value s8
  refine ok_nn (ix_ok (r_add e (by decide : (ci 3).toInt = 3) (by omega) (by omega)) (by omega) (by omega)) ?_
  extract_lets +onlyGivenNames s10
  have h10 : RX s s10 := RX_fe h8 (r_add e (by decide : (ci 3).toInt = 3) (by omega) (by omega)) (by unfold fr kW kK SK; omega)
  have b10 : s10.1 89 2 = s8.1 89 2 := keep2 (r_add e (by decide : (ci 3).toInt = 3) (by omega) (by omega)) (by omega)
  clear_value s10
  refine ok_nn (ix_ok (r_add e (by decide : (ci 4).toInt = 4) (by omega) (by omega)) (by omega) (by omega)) ?_
  extract_lets +onlyGivenNames s12
  have h12 : RX s s12 := RX_fe h10 (r_add e (by decide : (ci 4).toInt = 4) (by omega) (by omega)) (by unfold fr kW kK SK; omega)
  have b12 : s12.1 89 2 = s10.1 89 2 := keep2 (r_add e (by decide : (ci 4).toInt = 4) (by omega) (by omega)) (by omega)
  clear_value s12
  have q : s12.1 89 2 = s.1 89 2 := b12.trans (b10.trans (b8.trans (b6.trans b4)))
  extract_lets +onlyGivenNames s13
  have h13 : RX s s13 := RX_2 h12 (by rw [q, t_up (by omega)]; omega)
  clear_value s13
  exact ok_some h13
/-! hooks -/
def Hk (s : mG) (v : Int32) : Prop := v = ci (-1) ∨ (0 ≤ v.toInt ∧ v.toInt < (s.1 89 112).toInt ∧ ∀ a : Nat, (a : Int) < (s.1 89 112).toInt → s.1 89 (15 + a) ≠ v)
theorem IM_key {s : mG} {g : Nat} {v : Int32} (h : IM s) (hgn : (g : Int) < (s.1 89 112).toInt) (hv : Hk s v) : IM (mu s.1 89 (15 + g) v, s.2) := by
  have i := im_112 h
  have e112 : (mu s.1 89 (15 + g) v, s.2).1 89 112 = s.1 89 112 := mu_cellP (by omega)
  refine IM_mk h ?_ ?_ e112 (mu_rowP (by decide)) (mu_rowP (by decide)) (mu_cellP (by omega)) (mu_cellP (by omega)) (mu_cellP (by omega))
  · exact WI_congr (fun j hj => mu_cellP (Or.inr fun e => by subst e; unfold kW at hj; omega)) h.1
  · rw [e112]
    have c : ∀ a, a ≠ g → (mu s.1 89 (15 + g) v, s.2).1 89 (15 + a) = s.1 89 (15 + a) := fun a ha => mu_cellP (by omega)
    have cg : (mu s.1 89 (15 + g) v, s.2).1 89 (15 + g) = v := mu_sameP
    refine ⟨?_, fun a ha hn => ?_, fun a b ha hb hn hm he hz => ?_⟩
    · rw [show (mu s.1 89 (15 + g) v, s.2).1 89 2 = s.1 89 2 from mu_cellP (by omega)]; exact h.2.1.1
    · by_cases q : a = g
      · subst q
        rw [cg]
        rcases hv with e | e
        · rw [e, show (ci (-1)).toInt = -1 by decide]; omega
        · omega
      · rw [c a q]; exact h.2.1.2.1 a ha hn
    · by_cases q : a = g
      · subst q
        by_cases w : b = a
        · exact w.symm
        · rw [cg, c b w] at he
          rw [cg] at hz
          rcases hv with e | e
          · exact absurd e hz
          · exact absurd he.symm (e.2.2 b hm)
      · by_cases w : b = g
        · subst w
          rw [cg, c a q] at he
          rw [c a q] at hz
          rcases hv with e | e
          · exact absurd (he.trans e) hz
          · exact absurd he (e.2.2 a hn)
        · rw [c a q, c b w] at he
          rw [c a q] at hz
          exact h.2.1.2.2 a b ha hb hn hm he hz
theorem RX_key {s0 s : mG} {x v : Int32} (h : RX s0 s) (h0 : 0 ≤ x.toInt) (h1 : x.toInt < (s.1 89 112).toInt) (hv : Hk s v) : RX s0 (mu s.1 89 ((c8 15) + x).toNatClampNeg v, s.2) := by
  have i := im_112 h.1.1
  rw [r_ix (b := 15) (by decide) h0 (by omega) (by decide)]
  exact RX_mk h (IM_key h.1.1 (by omega) hv) (fun j hj => mu_rowP (by omega)) (mu_cellP (by omega)) (fun j hj => mu_cellP (by unfold SK at hj; omega))
theorem rm_r {x y : Int32} (hx : 0 ≤ x.toInt) (hy : 0 < y.toInt) : (rm x y).toInt = x.toInt % y.toInt := by
  have l := @t_lt x
  have d0 : 0 ≤ x.toInt / y.toInt := Int.ediv_nonneg hx (by omega)
  have d1 : x.toInt / y.toInt ≤ x.toInt := Int.ediv_le_self _ hx
  have ed : (x / y).toInt = x.toInt / y.toInt := by
    rw [Int32.toInt_div, Int.tdiv_eq_ediv_of_nonneg hx]
    exact Int.bmod_eq_of_le (by omega) (by omega)
  have hm := Int.emod_add_mul_ediv x.toInt y.toInt
  have m0 := Int.emod_nonneg x.toInt (show y.toInt ≠ 0 by omega)
  have hp : 0 ≤ x.toInt / y.toInt * y.toInt := Int.mul_nonneg d0 (by omega)
  rw [Int.mul_comm] at hm
  show (x - x / y * y).toInt = _
  rw [r_sub rfl (r_mul ed rfl (by omega) (by omega)) (by omega) (by omega)]
  omega
theorem T_hangs_62 {x1 : Int32} {s : mG} (h : 0 ≤ x1.toInt ∧ x1.toInt < (s.1 89 112).toInt) (hI : IM s) : ok (F_X12_hangsOn_62 x1 s) (fun τ => Hk τ.2 τ.1 ∧ RX s τ.2) := by
  unfold F_X12_hangsOn_62
  refine ok_b1 (T_X12_keyOn hI) (fun v hv => ?_)
  refine ok_ite (fun c => ?_) (fun _ => ?_)
  · exact ok_some ⟨Or.inr ⟨h.1, h.2, hv c⟩, RX_refl hI⟩
  · exact ok_some ⟨Or.inl rfl, RX_refl hI⟩
theorem T_hangs_29 {x1 y0 : Int32} {s : mG} (h : 0 ≤ x1.toInt ∧ x1.toInt < (s.1 89 112).toInt) (hI : IM s) : ok (F_X12_hangsOn_29 x1 y0 s) (fun τ => Hk τ.2 τ.1 ∧ RX s τ.2) := by
  have i := im_112 hI
  unfold F_X12_hangsOn_29
  refine ok_nn (fun q => ?_) ?_
  · have q2 := r_eq (rfl : (s.1 89 112).toInt = _) t_zero q
    omega
  · extract_lets +onlyGivenNames v10
    have e : v10.toInt = (x1 + ci 1).toInt % (s.1 89 112).toInt := rm_r (by rw [t_up (by omega)]; omega) (by omega)
    rw [t_up (by omega)] at e
    clear_value v10
    have b : 0 ≤ v10.toInt ∧ v10.toInt < (s.1 89 112).toInt := by
      rw [e]
      exact ⟨Int.emod_nonneg _ (by omega), Int.emod_lt_of_pos _ (by omega)⟩
    refine ok_ite (fun _ => T_hangs_62 h hI) (fun _ => ?_)
    refine ok_b1 (T_X12_keyOn hI) (fun v hv => ?_)
    refine ok_ite (fun c => ?_) (fun _ => T_hangs_62 h hI)
    exact ok_some ⟨Or.inr ⟨b.1, b.2, hv c⟩, RX_refl hI⟩
theorem T_X12_hangsOn {a1 a2 a3 : Int32} {s : mG} (h : 0 ≤ a1.toInt ∧ a1.toInt < (s.1 89 112).toInt) (hI : IM s) : ok (F_X12_hangsOn a1 a2 a3 s) (fun τ => Hk τ.2 τ.1 ∧ RX s τ.2) := by
  unfold F_X12_hangsOn
  refine ok_b2 (T_X12_draw n1000 hI) (fun v3 s2 (h2 : True ∧ RX s s2) => ?_)
  refine ok_ite (fun _ => ?_) (fun _ => ok_some ⟨Or.inl rfl, h2.2⟩)
  refine ok_b2 (ok_rx2 h2.2 (T_X12_draw n1000 h2.2.1.1)) (fun v7 s6 (h6 : True ∧ RX s s6) => ?_)
  have h' : 0 ≤ a1.toInt ∧ a1.toInt < (s6.1 89 112).toInt := by rw [RX_112 h6.2]; exact h
  refine ok_ite (fun _ => ?_) (fun _ => ?_)
  · exact ok_mono (T_hangs_29 h' h6.2.1.1) (fun τ q => ⟨q.1, RX_tr h6.2 q.2⟩)
  · exact ok_mono (T_hangs_29 h' h6.2.1.1) (fun τ q => ⟨q.1, RX_tr h6.2 q.2⟩)
theorem T_moved_136 {x1 x2 x7 v : Int32} {s0 s : mG} (h : RX s0 s) (hg : 0 ≤ x1.toInt ∧ x1.toInt < (s.1 89 112).toInt) (hv : Hk s v) : ok (F_X12_isMoved_136 x1 x2 x7 ((c8 15) + x1) v s) (fun τ => PB τ.1 ∧ RX s0 τ.2) := by
  have i := im_112 h.1.1
  unfold F_X12_isMoved_136
  refine ok_nn (ix_ok (r_add (by decide : (c8 15).toInt = 15) (rfl : x1.toInt = _) (by omega) (by omega)) (by omega) (by omega)) ?_
  extract_lets +onlyGivenNames s32
  have h32 : RX s0 s32 := RX_key h hg.1 hg.2 hv
  clear_value s32
  have fin : ∀ y, ok (F_X12_isMoved_147 x1 x7 y s32) (fun τ => PB τ.1 ∧ RX s0 τ.2) := by
    intro y
    unfold F_X12_isMoved_147
    refine ok_b1 (T_X12_clerkAt h32.1.1) (fun v35 _ => ?_)
    refine ok_b1 (ok_rx h32 (T_X12_notes h32.1.1)) (fun s37 (h37 : RX s0 s37) => ?_)
    exact ok_some ⟨pb1, h37⟩
  exact ok_ite (fun _ => fin _) (fun _ => fin _)
theorem T_moved_110 {x1 x2 x5 x6 x7 y2 : Int32} {s0 s : mG} (h : RX s0 s) (hg : 0 ≤ x1.toInt ∧ x1.toInt < (s.1 89 112).toInt) : ok (F_X12_isMoved_110 x1 x2 x5 x6 x7 ((ci 3) + x1) y2 s) (fun τ => PB τ.1 ∧ RX s0 τ.2) := by
  have i := im_112 h.1.1
  unfold F_X12_isMoved_110
  refine ok_nn (ix_ok (r_add (by decide : (ci 3).toInt = 3) (rfl : x1.toInt = _) (by omega) (by omega)) (by omega) (by omega)) ?_
  extract_lets +onlyGivenNames s26
  have h26 : RX s s26 := RX_fe (RX_refl h.1.1) (r_add (by decide : (ci 3).toInt = 3) (rfl : x1.toInt = _) (by omega) (by omega)) (by unfold fr kW kK SK; omega)
  clear_value s26
  have hg' : 0 ≤ x1.toInt ∧ x1.toInt < (s26.1 89 112).toInt := by rw [RX_112 h26]; exact hg
  refine ok_ite (fun _ => ?_) (fun _ => ?_)
  · refine ok_b2 (T_X12_hangsOn hg' h26.1.1) (fun v30 s29 (h29 : Hk s29 v30 ∧ RX s26 s29) => ?_)
    exact T_moved_136 (RX_tr (RX_tr h h26) h29.2) (by rw [RX_112 h29.2]; exact hg') h29.1
  · exact T_moved_136 (RX_tr h h26) hg' (Or.inl rfl)
theorem T_moved_30 {x1 x2 y1 : Int32} {s : mG} (hg : 0 ≤ x1.toInt ∧ x1.toInt < (s.1 89 112).toInt) (hI : IM s) : ok (F_X12_isMoved_30 x1 x2 y1 s) (fun τ => PB τ.1 ∧ RX s τ.2) := by
  have i := im_112 hI
  have g12 : 0 ≤ x1.toInt ∧ x1.toInt < 12 := ⟨hg.1, by omega⟩
  unfold F_X12_isMoved_30
  refine ok_b2 (T_X12_saysNow g12 hI) (fun v6 s5 h5 => ?_)
  have h5 : RX s s5 := RX_RM h5.2
  refine ok_b2 (T_X12_saysNow g12 h5.1.1) (fun v9 s8 h8 => ?_)
  have h8 : RX s s8 := RX_tr h5 (RX_RM h8.2)
  refine ok_b2 (T_X12_saysNow g12 h8.1.1) (fun v12 s11 h11 => ?_)
  have h11 : RX s s11 := RX_tr h8 (RX_RM h11.2)
  refine ok_b2 (T_X12_saysNow g12 h11.1.1) (fun v15 s14 h14 => ?_)
  have h14 : RX s s14 := RX_tr h11 (RX_RM h14.2)
  refine ok_b2 (ok_rx2 h14 (T_X12_draw n1000 h14.1.1)) (fun v18 s17 (h17 : True ∧ RX s s17) => ?_)
  refine ok_ite (fun _ => ?_) (fun _ => ok_some ⟨pb0, h17.2⟩)
  refine ok_b2 (ok_rx2 h17.2 (T_X12_draw n1000 h17.2.1.1)) (fun v22 s21 (h21 : True ∧ RX s s21) => ?_)
  have hg' : 0 ≤ x1.toInt ∧ x1.toInt < (s21.1 89 112).toInt := by rw [RX_112 h21.2]; exact hg
  have fin : ∀ y, ok (F_X12_isMoved_92 x1 x2 v12 v15 y s21) (fun τ => PB τ.1 ∧ RX s τ.2) := by
    intro y
    unfold F_X12_isMoved_92
    exact ok_ite (fun _ => T_moved_110 h21.2 hg') (fun _ => T_moved_110 h21.2 hg')
  exact ok_ite (fun _ => fin _) (fun _ => fin _)
theorem T_X12_isMoved {a1 : Int32} {s : mG} (hg : 0 ≤ a1.toInt ∧ a1.toInt < (s.1 89 112).toInt) (hI : IM s) : ok (F_X12_isMoved a1 s) (fun τ => PB τ.1 ∧ RX s τ.2) := by
  have i := im_112 hI
  unfold F_X12_isMoved F_X12_isMoved_17
  refine ok_nn (ix_ok (r_add (by decide : (ci 3).toInt = 3) (rfl : a1.toInt = _) (by omega) (by omega)) (by omega) (by omega)) ?_
  refine ok_ite (fun _ => ?_) (fun _ => ?_)
  · exact ok_ite (fun _ => T_moved_30 hg hI) (fun _ => T_moved_30 hg hI)
  · exact ok_ite (fun _ => T_moved_30 hg hI) (fun _ => T_moved_30 hg hI)
theorem T_X12_anHour {s : mG} (hI : IM s) : ok (F_X12_anHour s) (fun τ => True ∧ RX s τ.2) := by
  unfold F_X12_anHour F_X12_anHour_L4
  refine ok_whl (fun v => RX s v.2.2 ∧ 0 ≤ v.2.1.toInt) (fun v => mUp v.2.1) ⟨RX_refl hI, show 0 ≤ (ci 0).toInt by decide⟩ (fun v hv => ?_)
  obtain ⟨x1, x2, s1⟩ := v
  obtain ⟨r1, r2⟩ := hv
  have h1 : RX s s1 := r1
  have h2 : 0 ≤ x2.toInt := r2
  clear r1 r2
  have i := im_112 h1.1.1
  show ok (F_X12_anHour_B4 x1 x2 s1) _
  unfold F_X12_anHour_B4
  refine ok_ite (fun _ => ?_) (fun c => ?_)
  · extract_lets +onlyGivenNames s2
    have hs2 : RX s s2 := RX_free h1 (by unfold fr kW kK SK; omega)
    clear_value s2
    exact ok_some (lp_inr ⟨trivial, hs2⟩)
  · have c2 := r_nle (rfl : (s1.1 89 112).toInt = _) (rfl : x2.toInt = _) c
    refine ok_b2 (T_X12_isMoved ⟨h2, c2⟩ h1.1.1) (fun v5 s4 h4 => ?_)
    have h4 : RX s s4 := RX_tr h1 h4.2
    have fin : ∀ y, ok (F_X12_anHour_54 x1 x2 v5 ((c8 27) + x2) y s4) (lpost (fun v => RX s v.2.2 ∧ 0 ≤ v.2.1.toInt) (fun (v : Int32 × Int32 × mG) => mUp v.2.1) (mUp x2) (fun τ => True ∧ RX s τ.2)) := by
      intro y
      unfold F_X12_anHour_54
      refine ok_nn (ix_ok (r_add (by decide : (c8 27).toInt = 27) (rfl : x2.toInt = _) (by omega) (by omega)) (by omega) (by omega)) ?_
      extract_lets +onlyGivenNames s11
      have h11 : RX s s11 := RX_fe h4 (r_add (by decide : (c8 27).toInt = 27) (rfl : x2.toInt = _) (by omega) (by omega)) (by unfold fr kW kK SK; omega)
      clear_value s11
      unfold F_X12_anHour_65
      exact ok_ite (fun _ => ok_some (lp_inl ⟨h11, up_0 (x := x2) h2 (by omega)⟩ (up_t (x := x2) (by omega)))) (fun _ => ok_some (lp_inl ⟨h11, up_0 (x := x2) h2 (by omega)⟩ (up_t (x := x2) (by omega))))
    refine ok_ite (fun _ => ?_) (fun _ => fin _)
    refine ok_nn (ix_ok (r_add (by decide : (c8 27).toInt = 27) (rfl : x2.toInt = _) (by omega) (by omega)) (by omega) (by omega)) ?_
    refine ok_b1 (T_X12_lesser rfl h4.1.1) (fun v9 _ => ?_)
    exact fin _
end
/-! 58.b.mut2 -/
section
/-! THE REFERENCE: going back, coming, hanging, the image, the tape -/
theorem keeps_49 {s : mG} (hI : IM s) (hm : (s.1 88 3).toInt ≤ 5) : ok (F_X12_keeps_49 s) (fun s' => RX s s' ∧ s'.1 89 = s.1 89) := by
  have ib := im_back hI
  obtain ⟨m, em⟩ : ∃ m : Nat, (s.1 88 3).toInt = (m : Int) := ⟨(s.1 88 3).toInt.toNat, by omega⟩
  unfold F_X12_keeps_49 F_X12_keeps_L51
  refine ok_whl (fun v => (∀ j, j ≠ 91 → v.2.1 j = s.1 j) ∧ 0 ≤ v.1.toInt ∧ v.1.toInt ≤ 112 ∧ (∀ k : Nat, (k : Int) < v.1.toInt → v.2.1 91 (112 * m + k) = s.1 89 k) ∧ (∀ k : Nat, k < 112 * m → v.2.1 91 k = s.1 91 k)) (fun v => mUp v.1) ⟨fun _ _ => rfl, show 0 ≤ (ci 0).toInt by decide, show (ci 0).toInt ≤ 112 by decide, fun k (hk : (k : Int) < (ci 0).toInt) => by rw [show (ci 0).toInt = 0 by decide] at hk; omega, fun _ _ => rfl⟩ (fun v hv => ?_)
  obtain ⟨x1, s1⟩ := v
  obtain ⟨r1, r2, r3, r4, r5⟩ := hv
  have h1 : ∀ j, j ≠ 91 → s1.1 j = s.1 j := r1
  have h2 : 0 ≤ x1.toInt := r2
  have h3 : x1.toInt ≤ 112 := r3
  have h4 : ∀ k : Nat, (k : Int) < x1.toInt → s1.1 91 (112 * m + k) = s.1 89 k := r4
  have h5 : ∀ k : Nat, k < 112 * m → s1.1 91 k = s.1 91 k := r5
  clear r1 r2 r3 r4 r5
  have e3 : s1.1 88 3 = s.1 88 3 := congrFun (h1 88 (by decide)) 3
  show ok (F_X12_keeps_B51 x1 s1) _
  unfold F_X12_keeps_B51
  refine ok_ite (fun c => ?_) (fun c => ?_)
  · have c1 := r_le (by decide : (c8 112).toInt = 112) (rfl : x1.toInt = _) c
    refine ok_some (lp_inr ?_)
    have row : ∀ j, j ≠ 88 → (mu s1.1 88 3 ((s1.1 88 3) + (ci 1)), s1.2).1 j = s1.1 j := fun j hj => mu_rowP hj
    have n3 : (mu s1.1 88 3 ((s1.1 88 3) + (ci 1)), s1.2).1 88 3 = s.1 88 3 + ci 1 := by rw [mu_sameP, e3]
    have t3 : (s.1 88 3 + ci 1).toInt = (m : Int) + 1 := by rw [t_up (by omega), em]
    have e89 : (mu s1.1 88 3 ((s1.1 88 3) + (ci 1)), s1.2).1 89 = s.1 89 := (row 89 (by decide)).trans (h1 89 (by decide))
    have e90 : (mu s1.1 88 3 ((s1.1 88 3) + (ci 1)), s1.2).1 90 = s.1 90 := (row 90 (by decide)).trans (h1 90 (by decide))
    have e91 : (mu s1.1 88 3 ((s1.1 88 3) + (ci 1)), s1.2).1 91 = s1.1 91 := row 91 (by decide)
    have e4 : (mu s1.1 88 3 ((s1.1 88 3) + (ci 1)), s1.2).1 88 4 = s.1 88 4 := (mu_cellP (by omega)).trans (congrFun (h1 88 (by decide)) 4)
    have e15 : (mu s1.1 88 3 ((s1.1 88 3) + (ci 1)), s1.2).1 88 15 = s.1 88 15 := (mu_cellP (by omega)).trans (congrFun (h1 88 (by decide)) 15)
    refine ⟨⟨⟨⟨?_, ?_, ?_, ?_, ?_, ?_⟩, fun j hj => (row j (by omega)).trans (h1 j (by omega)), e15⟩, fun _ _ => by rw [e89]⟩, e89⟩
    · rw [e89]; exact hI.1
    · rw [e89]; exact hI.2.1
    · rw [e4, e90]; exact hI.2.2.1
    · rw [n3, t3]; omega
    · intro j hj hl
      rw [n3, t3] at hl
      rw [e89, e91]
      by_cases q : j = m
      · subst q
        exact KI_congr (fun k hk => h4 k (by unfold kK at hk; omega)) hI.2.1
      · exact KI_congr (fun k hk => h5 _ (by unfold kK at hk; omega)) (hI.2.2.2.2.1 j hj (by omega))
    · rw [e15]; exact hI.2.2.2.2.2
  · have c1 := r_nle (by decide : (c8 112).toInt = 112) (rfl : x1.toInt = _) c
    refine ok_nn (ix_ok (rfl : x1.toInt = _) (by omega) (by omega)) ?_
    rw [e3]
    refine ok_nn (ix_ok (r_add (r_mul (by decide : (c8 112).toInt = 112) em (by omega) (by omega)) (rfl : x1.toInt = _) (by omega) (by omega)) (by omega) (by omega)) ?_
    rw [r_nat2 (m := 112 * m + x1.toInt.toNat) (r_add (r_mul (by decide : (c8 112).toInt = 112) em (by omega) (by omega)) (rfl : x1.toInt = _) (by omega) (by omega)) (by omega)]
    extract_lets +onlyGivenNames s8
    have g1 : ∀ j, j ≠ 91 → s8.1 j = s.1 j := fun j hj => (mu_rowP hj : s8.1 j = s1.1 j).trans (h1 j hj)
    have g0 : s8.1 91 (112 * m + x1.toInt.toNat) = s.1 89 x1.toNatClampNeg := (mu_sameP : s8.1 91 (112 * m + x1.toInt.toNat) = s1.1 89 x1.toNatClampNeg).trans (by rw [h1 89 (by decide)])
    have g2 : ∀ k, k ≠ 112 * m + x1.toInt.toNat → s8.1 91 k = s1.1 91 k := fun k hk => mu_cellP (Or.inr hk)
    clear_value s8
    have g4 : ∀ k : Nat, (k : Int) < (x1 + ci 1).toInt → s8.1 91 (112 * m + k) = s.1 89 k := by
      intro k hk
      rw [t_up (by omega)] at hk
      by_cases q : k = x1.toInt.toNat
      · subst q; exact g0
      · rw [g2 _ (by omega)]; exact h4 k (by omega)
    exact ok_some (lp_inl ⟨g1, up_0 (x := x1) h2 (by omega), up_le (x := x1) (by omega) (by omega), g4, fun k hk => (g2 k (by omega)).trans (h5 k hk)⟩ (up_t (x := x1) (by omega)))
theorem T_X12_keeps {s : mG} (hI : IM s) : ok (F_X12_keeps s) (fun s' => RX s s' ∧ s'.1 89 = s.1 89) := by
  have ib := im_back hI
  unfold F_X12_keeps
  refine ok_ite (fun c => ?_) (fun c => ?_)
  · have c6 := r_eq (rfl : (s.1 88 3).toInt = _) (by decide : (c8 6).toInt = 6) c
    unfold F_X12_keeps_L11
    refine ok_whl (fun v => (∀ j, j ≠ 91 → v.2.1 j = s.1 j) ∧ 0 ≤ v.1.toInt ∧ v.1.toInt ≤ 560 ∧ (∀ k : Nat, (k : Int) < v.1.toInt → v.2.1 91 k = s.1 91 (k + 112)) ∧ (∀ k : Nat, v.1.toInt ≤ (k : Int) → v.2.1 91 k = s.1 91 k)) (fun v => mUp v.1) ⟨fun _ _ => rfl, show 0 ≤ (ci 0).toInt by decide, show (ci 0).toInt ≤ 560 by decide, fun k (hk : (k : Int) < (ci 0).toInt) => by rw [show (ci 0).toInt = 0 by decide] at hk; omega, fun _ _ => rfl⟩ (fun v hv => ?_)
    obtain ⟨x1, s1⟩ := v
    obtain ⟨r1, r2, r3, r4, r5⟩ := hv
    have h1 : ∀ j, j ≠ 91 → s1.1 j = s.1 j := r1
    have h2 : 0 ≤ x1.toInt := r2
    have h3 : x1.toInt ≤ 560 := r3
    have h4 : ∀ k : Nat, (k : Int) < x1.toInt → s1.1 91 k = s.1 91 (k + 112) := r4
    have h5 : ∀ k : Nat, x1.toInt ≤ (k : Int) → s1.1 91 k = s.1 91 k := r5
    clear r1 r2 r3 r4 r5
    show ok (F_X12_keeps_B11 x1 s1) _
    unfold F_X12_keeps_B11
    refine ok_ite (fun c => ?_) (fun c => ?_)
    · have c1 := r_le (by decide : (c16 560).toInt = 560) (rfl : x1.toInt = _) c
      have e3 : s1.1 88 3 = s.1 88 3 := congrFun (h1 88 (by decide)) 3
      extract_lets +onlyGivenNames s3
      have row : ∀ j, j ≠ 88 → s3.1 j = s1.1 j := fun j hj => mu_rowP hj
      have t3 : (s3.1 88 3).toInt = 5 := by
        rw [show s3.1 88 3 = s1.1 88 3 - ci 1 from mu_sameP, e3]
        rw [r_sub (rfl : (s.1 88 3).toInt = _) (by decide : (ci 1).toInt = 1) (by omega) (by omega)]
        omega
      have e4 : s3.1 88 4 = s.1 88 4 := (mu_cellP (by omega) : s3.1 88 4 = s1.1 88 4).trans (congrFun (h1 88 (by decide)) 4)
      have e15 : s3.1 88 15 = s.1 88 15 := (mu_cellP (by omega) : s3.1 88 15 = s1.1 88 15).trans (congrFun (h1 88 (by decide)) 15)
      clear_value s3
      have e89 : s3.1 89 = s.1 89 := (row 89 (by decide)).trans (h1 89 (by decide))
      have e90 : s3.1 90 = s.1 90 := (row 90 (by decide)).trans (h1 90 (by decide))
      have e91 : s3.1 91 = s1.1 91 := row 91 (by decide)
      have I3 : IM s3 := by
        refine ⟨by rw [e89]; exact hI.1, by rw [e89]; exact hI.2.1, by rw [e4, e90]; exact hI.2.2.1, by omega, ?_, by rw [e15]; exact hI.2.2.2.2.2⟩
        intro j hj hl
        rw [e89, e91]
        refine KI_congr (fun k hk => ?_) (hI.2.2.2.2.1 (j + 1) (by omega) (by omega))
        have hk2 : k < 112 := by unfold kK at hk; omega
        rw [h4 (112 * j + k) (by omega), show 112 * j + k + 112 = 112 * (j + 1) + k by omega]
      refine ok_b1r (ok_mono (keeps_49 I3 (by omega)) (fun s' h => ?_))
      exact ⟨RX_tr ⟨⟨I3, fun j hj => (row j (by omega)).trans (h1 j (by omega)), e15⟩, fun _ _ => by rw [e89]⟩ h.1, h.2.trans e89⟩
    · have c1 := r_nle (by decide : (c16 560).toInt = 560) (rfl : x1.toInt = _) c
      refine ok_nn (ix_ok (r_add (rfl : x1.toInt = _) (by decide : (c8 112).toInt = 112) (by omega) (by omega)) (by omega) (by omega)) ?_
      refine ok_nn (ix_ok (rfl : x1.toInt = _) (by omega) (by omega)) ?_
      rw [r_nat2 (m := x1.toInt.toNat + 112) (r_add (rfl : x1.toInt = _) (by decide : (c8 112).toInt = 112) (by omega) (by omega)) (by omega), t_nat]
      extract_lets +onlyGivenNames s11
      have g1 : ∀ j, j ≠ 91 → s11.1 j = s.1 j := fun j hj => (mu_rowP hj : s11.1 j = s1.1 j).trans (h1 j hj)
      have g0 : s11.1 91 x1.toInt.toNat = s.1 91 (x1.toInt.toNat + 112) := (mu_sameP : s11.1 91 x1.toInt.toNat = s1.1 91 (x1.toInt.toNat + 112)).trans (h5 _ (by omega))
      have g2 : ∀ k, k ≠ x1.toInt.toNat → s11.1 91 k = s1.1 91 k := fun k hk => mu_cellP (Or.inr hk)
      clear_value s11
      have g4 : ∀ k : Nat, (k : Int) < (x1 + ci 1).toInt → s11.1 91 k = s.1 91 (k + 112) := by
        intro k hk
        rw [t_up (by omega)] at hk
        by_cases q : k = x1.toInt.toNat
        · subst q; exact g0
        · rw [g2 _ q]; exact h4 k (by omega)
      have g5 : ∀ k : Nat, (x1 + ci 1).toInt ≤ (k : Int) → s11.1 91 k = s.1 91 k := by
        intro k hk
        rw [t_up (by omega)] at hk
        rw [g2 _ (by omega)]; exact h5 k (by omega)
      exact ok_some (lp_inl ⟨g1, up_0 (x := x1) h2 (by omega), up_le (x := x1) (by omega) (by omega), g4, g5⟩ (up_t (x := x1) (by omega)))
  · have c6 := r_ne (rfl : (s.1 88 3).toInt = _) (by decide : (c8 6).toInt = 6) c
    exact keeps_49 hI (by omega)
theorem T_X12_undo {s : mG} (hI : IM s) : ok (F_X12_undo s) (fun τ => PB τ.1 ∧ RX s τ.2) := by
  have ib := im_back hI
  unfold F_X12_undo
  refine ok_ite (fun _ => ok_some ⟨pb0, RX_refl hI⟩) (fun c => ?_)
  have c0 := r_ne (rfl : (s.1 88 3).toInt = _) t_zero c
  obtain ⟨m, em⟩ : ∃ m : Nat, (s.1 88 3).toInt = (m : Int) + 1 := ⟨((s.1 88 3).toInt - 1).toNat, by omega⟩
  extract_lets +onlyGivenNames s2
  have row : ∀ j, j ≠ 88 → s2.1 j = s.1 j := fun j hj => mu_rowP hj
  have t3 : (s2.1 88 3).toInt = (m : Int) := by
    rw [show s2.1 88 3 = s.1 88 3 - ci 1 from mu_sameP]
    rw [r_sub (rfl : (s.1 88 3).toInt = _) (by decide : (ci 1).toInt = 1) (by omega) (by omega)]
    omega
  have e4 : s2.1 88 4 = s.1 88 4 := mu_cellP (by omega)
  have e15 : s2.1 88 15 = s.1 88 15 := mu_cellP (by omega)
  clear_value s2
  unfold F_X12_undo_L21
  refine ok_whl (fun v => (∀ j, j ≠ 89 → v.2.1 j = s2.1 j) ∧ 0 ≤ v.1.toInt ∧ v.1.toInt ≤ 112 ∧ (∀ k : Nat, (k : Int) < v.1.toInt → v.2.1 89 k = s.1 91 (112 * m + k)) ∧ (∀ k : Nat, 112 ≤ k → v.2.1 89 k = s.1 89 k)) (fun v => mUp v.1) ⟨fun _ _ => rfl, show 0 ≤ (ci 0).toInt by decide, show (ci 0).toInt ≤ 112 by decide, fun k (hk : (k : Int) < (ci 0).toInt) => by rw [show (ci 0).toInt = 0 by decide] at hk; omega, fun k _ => congrFun (row 89 (by decide)) k⟩ (fun v hv => ?_)
  obtain ⟨x1, s1⟩ := v
  obtain ⟨r1, r2, r3, r4, r5⟩ := hv
  have h1 : ∀ j, j ≠ 89 → s1.1 j = s2.1 j := r1
  have h2 : 0 ≤ x1.toInt := r2
  have h3 : x1.toInt ≤ 112 := r3
  have h4 : ∀ k : Nat, (k : Int) < x1.toInt → s1.1 89 k = s.1 91 (112 * m + k) := r4
  have h5 : ∀ k : Nat, 112 ≤ k → s1.1 89 k = s.1 89 k := r5
  clear r1 r2 r3 r4 r5
  have e88 : s1.1 88 = s2.1 88 := h1 88 (by decide)
  have e91 : s1.1 91 = s.1 91 := (h1 91 (by decide)).trans (row 91 (by decide))
  show ok (F_X12_undo_B21 x1 s1) _
  unfold F_X12_undo_B21
  refine ok_ite (fun c => ?_) (fun c => ?_)
  · have c1 := r_le (by decide : (c8 112).toInt = 112) (rfl : x1.toInt = _) c
    have e112 : s1.1 89 112 = s.1 89 112 := h5 112 (by omega)
    have e90 : s1.1 90 = s.1 90 := (h1 90 (by decide)).trans (row 90 (by decide))
    refine ok_some (lp_inr ⟨pb1, ⟨⟨⟨?_, ?_, ?_, ?_, ?_, ?_⟩, fun j hj => (h1 j (by omega)).trans (row j (by omega)), by rw [e88]; exact e15⟩, fun j hj => h5 j (by unfold SK at hj; omega)⟩⟩)
    · exact WI_congr (fun j hj => h5 j (by unfold kW at hj; omega)) hI.1
    · show KI (s1.1 89 112).toInt (s1.1 89)
      rw [e112]
      exact KI_congr (fun k hk => h4 k (by unfold kK at hk; omega)) (hI.2.2.2.2.1 m (by omega) (by omega))
    · show s1.1 88 4 ≠ 0 → _
      rw [e88, e4, e90]; exact hI.2.2.1
    · show 0 ≤ (s1.1 88 3).toInt ∧ (s1.1 88 3).toInt ≤ 6
      rw [e88]; omega
    · intro j hj hl
      replace hl : (j : Int) < (s1.1 88 3).toInt := hl
      rw [e88] at hl
      show KI (s1.1 89 112).toInt (fun k => s1.1 91 (112 * j + k))
      rw [e112, e91]
      exact hI.2.2.2.2.1 j hj (by omega)
    · show 0 ≤ (s1.1 88 15).toInt ∧ (s1.1 88 15).toInt ≤ 400
      rw [e88, e15]; exact hI.2.2.2.2.2
  · have c1 := r_nle (by decide : (c8 112).toInt = 112) (rfl : x1.toInt = _) c
    rw [e88]
    refine ok_nn (ix_ok (r_add (r_mul (by decide : (c8 112).toInt = 112) t3 (by omega) (by omega)) (rfl : x1.toInt = _) (by omega) (by omega)) (by omega) (by omega)) ?_
    refine ok_nn (ix_ok (rfl : x1.toInt = _) (by omega) (by omega)) ?_
    rw [r_nat2 (m := 112 * m + x1.toInt.toNat) (r_add (r_mul (by decide : (c8 112).toInt = 112) t3 (by omega) (by omega)) (rfl : x1.toInt = _) (by omega) (by omega)) (by omega), t_nat]
    extract_lets +onlyGivenNames s6
    have g1 : ∀ j, j ≠ 89 → s6.1 j = s2.1 j := fun j hj => (mu_rowP hj : s6.1 j = s1.1 j).trans (h1 j hj)
    have g0 : s6.1 89 x1.toInt.toNat = s.1 91 (112 * m + x1.toInt.toNat) := (mu_sameP : s6.1 89 x1.toInt.toNat = s1.1 91 (112 * m + x1.toInt.toNat)).trans (by rw [e91])
    have g2 : ∀ k, k ≠ x1.toInt.toNat → s6.1 89 k = s1.1 89 k := fun k hk => mu_cellP (Or.inr hk)
    clear_value s6
    have g4 : ∀ k : Nat, (k : Int) < (x1 + ci 1).toInt → s6.1 89 k = s.1 91 (112 * m + k) := by
      intro k hk
      rw [t_up (by omega)] at hk
      by_cases q : k = x1.toInt.toNat
      · subst q; exact g0
      · rw [g2 _ q]; exact h4 k (by omega)
    exact ok_some (lp_inl ⟨g1, up_0 (x := x1) h2 (by omega), up_le (x := x1) (by omega) (by omega), g4, fun k hk => (g2 k (by omega)).trans (h5 k hk)⟩ (up_t (x := x1) (by omega)))
theorem T_X12_hours {a1 : Int32} {s : mG} (hI : IM s) : ok (F_X12_hours a1 s) (fun τ => True ∧ RX s τ.2) := by
  unfold F_X12_hours F_X12_hours_24
  refine ok_b1 (T_X12_isIn hI) (fun v2 _ => ?_)
  refine ok_ite (fun _ => ok_some ⟨trivial, RX_refl hI⟩) (fun _ => ?_)
  refine ok_ite (fun _ => ?_) (fun _ => ok_some ⟨trivial, RX_refl hI⟩)
  unfold F_X12_hours_L30
  refine ok_whl (fun v => a1 = v.1 ∧ RX s v.2.2.2) (fun v => mUp v.2.2.1) ⟨rfl, RX_refl hI⟩ (fun v hv => ?_)
  obtain ⟨x1, x2, x3, s1⟩ := v
  obtain ⟨rfl, r1⟩ := hv
  have h1 : RX s s1 := r1
  clear r1
  show ok (F_X12_hours_B30 a1 x2 x3 s1) _
  unfold F_X12_hours_B30
  refine ok_ite (fun _ => ok_some (lp_inr ⟨trivial, h1⟩)) (fun c => ?_)
  refine ok_b1 (T_X12_keeps h1.1.1) (fun s7 h7 => ?_)
  have h7 : RX s s7 := RX_tr h1 h7.1
  refine ok_b2 (ok_rx2 h7 (T_X12_anHour h7.1.1)) (fun v10 s9 h9 => ?_)
  have h9 : RX s s9 := h9.2
  exact ok_some (lp_inl ⟨rfl, h9⟩ (up_t (x := x3) (ge_t c)))
theorem T_X12_hang {a1 a2 : Int32} {s : mG} (hI : IM s) : ok (F_X12_hang a1 a2 s) (fun τ => PB τ.1 ∧ RX s τ.2) := by
  have i := im_112 hI
  unfold F_X12_hang F_X12_hang_36
  have no : ok (some ((ci 0), s)) (fun τ => PB τ.1 ∧ RX s τ.2) := ok_some ⟨pb0, RX_refl hI⟩
  refine ok_b1 (T_X12_isGuest hI) (fun v2 hv2 => ?_)
  refine ok_ite (fun _ => no) (fun c2 => ?_)
  have f2 := hv2.2 c2
  refine ok_b1 (T_X12_isGuest hI) (fun v5 hv5 => ?_)
  refine ok_ite (fun _ => no) (fun c5 => ?_)
  have f5 := hv5.2 c5
  refine ok_nn (ix_ok (r_add (by decide : (ci 3).toInt = 3) (rfl : a1.toInt = _) (by omega) (by omega)) (by omega) (by omega)) ?_
  refine ok_ite (fun _ => no) (fun _ => ?_)
  refine ok_b1 (T_X12_keyOn hI) (fun v10 hv10 => ?_)
  refine ok_ite (fun c => ?_) (fun _ => no)
  have hk := hv10 c
  refine ok_b1 (T_X12_keeps hI) (fun s13 h13 => ?_)
  have g13 : RX s s13 := h13.1
  have e89 : s13.1 89 = s.1 89 := h13.2
  clear h13
  refine ok_nn (ix_ok (r_add (by decide : (c8 15).toInt = 15) (rfl : a1.toInt = _) (by omega) (by omega)) (by omega) (by omega)) ?_
  extract_lets +onlyGivenNames s15
  have h15 : RX s s15 := RX_key g13 f2.1 (by rw [e89]; exact f2.2) (Or.inr ⟨f5.1, by rw [e89]; exact f5.2, by rw [e89]; exact hk⟩)
  clear_value s15
  refine ok_b1 (ok_rx h15 (T_X12_notes h15.1.1)) (fun s17 (h17 : RX s s17) => ?_)
  exact ok_some ⟨pb1, h17⟩
theorem T_X12_looks {a1 a2 a3 : Int32} {s : mG} (hI : IM s) : ok (F_X12_looks a1 a2 a3 s) (fun τ => PB τ.1 ∧ RX s τ.2) := by
  have i := im_112 hI
  have i2 := im_115 hI
  unfold F_X12_looks F_X12_looks_43
  have no : ok (some ((ci 0), s)) (fun τ => PB τ.1 ∧ RX s τ.2) := ok_some ⟨pb0, RX_refl hI⟩
  refine ok_b1 (T_X12_isGuest hI) (fun v2 hv2 => ?_)
  refine ok_ite (fun _ => no) (fun c2 => ?_)
  have f2 := hv2.2 c2
  refine ok_b1 (T_X12_isSign hI) (fun v5 hv5 => ?_)
  refine ok_ite (fun _ => no) (fun c5 => ?_)
  have f5 := hv5.2 c5
  refine ok_b1 (T_X12_isIn hI) (fun v8 _ => ?_)
  refine ok_ite (fun _ => no) (fun _ => ?_)
  refine ok_nn (ix_ok (r_add (r_add (by decide : (c8 39).toInt = 39) (r_mul (by decide : (c8 6).toInt = 6) (rfl : a1.toInt = _) (by omega) (by omega)) (by omega) (by omega)) (rfl : a2.toInt = _) (by omega) (by omega)) (by omega) (by omega)) ?_
  refine ok_ite (fun _ => no) (fun _ => ?_)
  refine ok_b1 (T_X12_keeps hI) (fun s13 h13 => ?_)
  have g13 : RX s s13 := h13.1
  clear h13
  refine ok_nn (ix_ok (r_add (r_add (by decide : (c8 39).toInt = 39) (r_mul (by decide : (c8 6).toInt = 6) (rfl : a1.toInt = _) (by omega) (by omega)) (by omega) (by omega)) (rfl : a2.toInt = _) (by omega) (by omega)) (by omega) (by omega)) ?_
  extract_lets +onlyGivenNames s15
  have h15 : RX s s15 := RX_fe g13 (r_add (r_add (by decide : (c8 39).toInt = 39) (r_mul (by decide : (c8 6).toInt = 6) (rfl : a1.toInt = _) (by omega) (by omega)) (by omega) (by omega)) (rfl : a2.toInt = _) (by omega) (by omega)) (by unfold fr kW kK SK; omega)
  clear_value s15
  exact ok_some ⟨pb1, h15⟩
theorem T_X12_set {a1 a2 a3 : Int32} {s : mG} (hI : IM s) : ok (F_X12_set a1 a2 a3 s) (fun τ => PB τ.1 ∧ RX s τ.2) := by
  have i := im_112 hI
  unfold F_X12_set F_X12_set_92
  have no : ok (some ((ci 0), s)) (fun τ => PB τ.1 ∧ RX s τ.2) := ok_some ⟨pb0, RX_refl hI⟩
  have fin : ∀ s', RX s s' → ok (F_X12_set_110 s') (fun τ => PB τ.1 ∧ RX s τ.2) := by
    intro s' h
    unfold F_X12_set_110
    refine ok_b1 (ok_rx h (T_X12_forgets h.1.1)) (fun s7 (h7 : RX s s7) => ?_)
    exact ok_some ⟨pb1, h7⟩
  refine ok_ite (fun _ => ?_) (fun _ => ok_ite (fun _ => ?_) (fun _ => ok_ite (fun _ => ?_) (fun _ => no)))
  · refine ok_b1 (T_X12_isIn hI) (fun v3 _ => ?_)
    refine ok_ite (fun _ => no) (fun _ => ?_)
    exact fin _ (RX_free (RX_refl hI) (by unfold fr kW kK SK; omega))
  · refine ok_b1 (T_X12_isIn hI) (fun v3 _ => ?_)
    refine ok_ite (fun _ => no) (fun _ => ?_)
    exact fin _ (RX_free (RX_refl hI) (by unfold fr kW kK SK; omega))
  · refine ok_b1 (T_X12_isGuest hI) (fun v2 hv2 => ?_)
    refine ok_ite (fun _ => no) (fun c2 => ?_)
    have f2 := hv2.2 c2
    refine ok_b1 (T_X12_isIn hI) (fun v3 _ => ?_)
    refine ok_ite (fun _ => no) (fun _ => ?_)
    refine ok_nn (ix_ok (r_add (by decide : (c16 131).toInt = 131) (rfl : a2.toInt = _) (by omega) (by omega)) (by omega) (by omega)) ?_
    exact fin _ (RX_fe (RX_refl hI) (r_add (by decide : (c16 131).toInt = 131) (rfl : a2.toInt = _) (by omega) (by omega)) (by unfold fr kW kK SK; omega))
end
/-! 58.c.mut3 -/
section
/-! THE REFERENCE: guests, callers, rooms, the image, the tape -/
theorem IM_floor {s : mG} {k : Nat} {v : Int32} (h : IM s) (hk : k < 12) (hv : 0 ≤ v.toInt ∧ v.toInt ≤ 3) : IM (mu s.1 89 (119 + k) v, s.2) := by
  have e112 : (mu s.1 89 (119 + k) v, s.2).1 89 112 = s.1 89 112 := mu_cellP (by omega)
  refine IM_mk h ?_ ?_ e112 (mu_rowP (by decide)) (mu_rowP (by decide)) (mu_cellP (by omega)) (mu_cellP (by omega)) (mu_cellP (by omega))
  · obtain ⟨q1, q2, q3, q4, q5, q6, q7, q8, q9, q10, q11⟩ := h.1
    have c : ∀ j, j ≠ 119 + k → (mu s.1 89 (119 + k) v, s.2).1 89 j = s.1 89 j := fun j hj => mu_cellP (Or.inr hj)
    refine ⟨by rw [c _ (by omega)]; exact q1, by rw [c _ (by omega)]; exact q2, by rw [c _ (by omega)]; exact q3, by rw [c _ (by omega)]; exact q4, by rw [c _ (by omega)]; exact q5, by rw [c _ (by omega)]; exact q6, fun a ha => ?_, fun a ha hl => ?_, fun a ha hl => ?_, fun a ha hl => ?_, fun a ha hl => ?_⟩
    · by_cases e : a = k
      · subst e; rw [show (mu s.1 89 (119 + a) v, s.2).1 89 (119 + a) = v from mu_sameP]; exact hv
      · rw [c _ (by omega)]; exact q7 a ha
    · rw [c _ (by omega)] at hl; rw [c _ (by omega)]; exact q8 a ha hl
    · rw [c _ (by omega)] at hl; rw [c _ (by omega)]; exact q9 a ha hl
    · rw [c _ (by omega)] at hl; rw [c _ (by omega)]; exact q10 a ha hl
    · rw [c _ (by omega)] at hl; exact LawOK_congr ha (fun j hj => c j (by omega)) (q11 a ha hl)
  · rw [e112]; exact KI_congr (fun j hj => mu_cellP (Or.inr (by unfold kK at hj; omega))) h.2.1
theorem IM_keyfree {s : mG} {n : Nat} {v : Int32} (h : IM s) (hn : (s.1 89 112).toInt ≤ n) (hn12 : n < 12) : IM (mu s.1 89 (15 + n) v, s.2) := by
  have e112 : (mu s.1 89 (15 + n) v, s.2).1 89 112 = s.1 89 112 := mu_cellP (by omega)
  refine IM_mk h ?_ ?_ e112 (mu_rowP (by decide)) (mu_rowP (by decide)) (mu_cellP (by omega)) (mu_cellP (by omega)) (mu_cellP (by omega))
  · exact WI_congr (fun j hj => mu_cellP (Or.inr fun e => by subst e; unfold kW at hj; omega)) h.1
  · rw [e112]
    have c : ∀ a : Nat, (a : Int) < (s.1 89 112).toInt → (mu s.1 89 (15 + n) v, s.2).1 89 (15 + a) = s.1 89 (15 + a) := fun a ha => mu_cellP (by omega)
    refine ⟨?_, fun a ha hn => ?_, fun a b ha hb hn hm he hz => ?_⟩
    · rw [show (mu s.1 89 (15 + n) v, s.2).1 89 2 = s.1 89 2 from mu_cellP (by omega)]; exact h.2.1.1
    · rw [c a hn]; exact h.2.1.2.1 a ha hn
    · rw [c a hn, c b hm] at he; rw [c a hn] at hz; exact h.2.1.2.2 a b ha hb hn hm he hz
theorem IM_guest {s s' : mG} {n : Nat} (h : IM s) (hn : (s.1 89 112).toInt = n) (hn12 : n < 12) (hk : s.1 89 (15 + n) = ci (-1)) (hs : s' = (mu (mu s.1 89 112 (s.1 89 112 + ci 1)) 88 3 (ci 0), s.2)) : RW s s' := by
  have z : (ci 0).toInt = 0 := by decide
  have t1 : (s.1 89 112 + ci 1).toInt = (n : Int) + 1 := by rw [t_up (by omega), hn]
  have e3 : s'.1 88 3 = ci 0 := by rw [hs]; exact (mu_same : mu (mu s.1 89 112 (s.1 89 112 + ci 1)) 88 3 (ci 0) 88 3 = ci 0)
  have e88 : ∀ k, k ≠ 3 → s'.1 88 k = s.1 88 k := fun k hk => by
    rw [hs]
    exact (mu_cell (Or.inr hk) : mu (mu s.1 89 112 (s.1 89 112 + ci 1)) 88 3 (ci 0) 88 k = _).trans (mu_cell (Or.inl (by decide)))
  have row : ∀ j, j ≠ 88 → j ≠ 89 → s'.1 j = s.1 j := fun j h1 h2 => by
    rw [hs]
    exact (mu_row h1 : mu (mu s.1 89 112 (s.1 89 112 + ci 1)) 88 3 (ci 0) j = _).trans (mu_row h2)
  have c : ∀ k, k ≠ 112 → s'.1 89 k = s.1 89 k := fun k hk => by
    rw [hs]
    exact (mu_cell (Or.inl (by decide)) : mu (mu s.1 89 112 (s.1 89 112 + ci 1)) 88 3 (ci 0) 89 k = _).trans (mu_cell (Or.inr hk))
  have e112 : s'.1 89 112 = s.1 89 112 + ci 1 := by
    rw [hs]
    exact (mu_cell (Or.inl (by decide)) : mu (mu s.1 89 112 (s.1 89 112 + ci 1)) 88 3 (ci 0) 89 112 = _).trans mu_same
  clear hs
  refine ⟨⟨?_, ?_, ?_, ?_, ?_, ?_⟩, fun j hj => row j (by omega) (by omega), e88 15 (by decide)⟩
  · obtain ⟨q1, q2, q3, q4, q5, q6, q7, q8, q9, q10, q11⟩ := h.1
    refine ⟨by rw [e112, t1]; omega, by rw [c _ (by omega)]; exact q2, by rw [c _ (by omega)]; exact q3, by rw [c _ (by omega)]; exact q4, by rw [c _ (by omega)]; exact q5, by rw [c _ (by omega)]; exact q6, fun a ha => ?_, fun a ha hl => ?_, fun a ha hl => ?_, fun a ha hl => ?_, fun a ha hl => ?_⟩
    · rw [c _ (by omega)]; exact q7 a ha
    · rw [c _ (by omega)] at hl; rw [c _ (by omega)]; exact q8 a ha hl
    · rw [c _ (by omega)] at hl; rw [c _ (by omega)]; exact q9 a ha hl
    · rw [c _ (by omega)] at hl; rw [c _ (by omega)]; exact q10 a ha hl
    · rw [c _ (by omega)] at hl; exact LawOK_congr ha (fun j hj => c j (by omega)) (q11 a ha hl)
  · rw [e112, t1]
    have m1 : (ci (-1)).toInt = -1 := by decide
    refine ⟨by rw [c _ (by omega)]; exact h.2.1.1, fun a ha hl => ?_, fun a b ha hb hl hm he hz => ?_⟩
    · rw [c _ (by omega)]
      by_cases e : a = n
      · subst e; rw [hk, m1]; omega
      · have := h.2.1.2.1 a ha (by omega)
        omega
    · rw [c _ (by omega), c _ (by omega)] at he
      rw [c _ (by omega)] at hz
      by_cases e : a = n
      · subst e; exact absurd hk hz
      · by_cases w : b = n
        · subst w; exact absurd (he.trans hk) hz
        · exact h.2.1.2.2 a b ha hb (by omega) (by omega) he hz
  · rw [e88 4 (by decide), row 90 (by decide) (by decide)]; exact h.2.2.1
  · rw [e3, z]; omega
  · intro j _ hl; rw [e3, z] at hl; omega
  · rw [e88 15 (by decide)]; exact h.2.2.2.2.2
theorem keepc {s : mG} {e v : Int32} {m : Int} {k : Nat} (he : e.toInt = m) (hm : m ≠ k) (h0 : 0 ≤ m) : ((mu s.1 89 e.toNatClampNeg v, s.2) : mG).1 89 k = s.1 89 k := mu_cellP (Or.inr (by rw [t_nat, he]; omega))
def gdr (a1 a2 n : Int32) : Int32 := if wi a1 (ci 0) (ci 3) = 0 ∨ wi a2 (ci 0) (c8 99) = 0 ∨ n = c8 12 then ci (-1) else n
def gdl (a1 a2 n : Int32) : Int32 := if wi a1 (ci 0) (ci 3) = 0 ∨ wi a2 (ci 0) (c8 99) = 0 ∨ n = c8 12 then n else n + ci 1
def GU (a1 a2 : Int32) (s : mG) (τ : Int32 × mG) : Prop := RW s τ.2 ∧ τ.1 = gdr a1 a2 (s.1 89 112) ∧ τ.2.1 89 112 = gdl a1 a2 (s.1 89 112) ∧ ∀ j, SK j → j ≠ 112 → τ.2.1 89 j = s.1 89 j
theorem T_X12_guest {a1 a2 : Int32} {s : mG} (hI : IM s) : ok (F_X12_guest a1 a2 s) (GU a1 a2 s) := by
  have i := im_112 hI
  unfold F_X12_guest F_X12_guest_31
  have no : (wi a1 (ci 0) (ci 3) = 0 ∨ wi a2 (ci 0) (c8 99) = 0 ∨ s.1 89 112 = c8 12) → ok (some ((ci (-1)), s)) (GU a1 a2 s) := fun h => ok_some ⟨RW_refl hI, by unfold gdr; rw [if_pos h], by unfold gdl; rw [if_pos h], fun _ _ _ => rfl⟩
  rw [F_isIn, b1_some]
  refine ok_ite (fun c2 => no (Or.inl c2)) (fun c2 => ?_)
  have f2 := isin_f (a := a1) (by decide : (ci 0).toInt = 0) (by decide : (ci 3).toInt = 3) (wi_f c2)
  rw [F_isIn, b1_some]
  refine ok_ite (fun c3 => no (Or.inr (Or.inl c3))) (fun c3 => ?_)
  refine ok_ite (fun c => no (Or.inr (Or.inr c))) (fun c => ?_)
  have yes : ¬ (wi a1 (ci 0) (ci 3) = 0 ∨ wi a2 (ci 0) (c8 99) = 0 ∨ s.1 89 112 = c8 12) := fun h => h.elim c2 (fun h => h.elim c3 c)
  have c1 := r_ne (rfl : (s.1 89 112).toInt = _) (by decide : (c8 12).toInt = 12) c
  obtain ⟨n, en⟩ : ∃ n : Nat, (s.1 89 112).toInt = (n : Int) := ⟨(s.1 89 112).toInt.toNat, by omega⟩
  have E : ∀ {c : Int32} {b : Nat}, c.toInt = (b : Int) → b < 1000 → (c + s.1 89 112).toInt = (b : Int) + n := fun hc hb => r_add hc en (by omega) (by omega)
  refine ok_nn (ix_ok (E (b := 119) (by decide) (by decide)) (by omega) (by omega)) ?_
  rw [r_nat2 (e := (c8 119) + (s.1 89 112)) (m := 119 + n) (E (b := 119) (by decide) (by decide)) (by omega)]
  extract_lets +onlyGivenNames s9
  have h9 : RX s s9 := RX_mk (RX_refl hI) (IM_floor hI (by omega) f2) (fun j hj => mu_rowP (by omega)) (mu_cellP (by omega)) (fun j hj => mu_cellP (by unfold SK at hj; omega))
  clear_value s9
  refine ok_nn (ix_ok (E (b := 131) (by decide) (by decide)) (by omega) (by omega)) ?_
  extract_lets +onlyGivenNames s11
  have h11 : RX s s11 := RX_fe h9 (E (b := 131) (by decide) (by decide)) (by unfold fr kW kK SK; omega)
  clear_value s11
  refine ok_nn (ix_ok (E (b := 3) (by decide) (by decide)) (by omega) (by omega)) ?_
  extract_lets +onlyGivenNames s13
  have h13 : RX s s13 := RX_fe h11 (E (b := 3) (by decide) (by decide)) (by unfold fr kW kK SK; omega)
  clear_value s13
  refine ok_nn (ix_ok (E (b := 15) (by decide) (by decide)) (by omega) (by omega)) ?_
  rw [r_nat2 (e := (c8 15) + (s.1 89 112)) (m := 15 + n) (E (b := 15) (by decide) (by decide)) (by omega)]
  extract_lets +onlyGivenNames s15
  have h15 : RX s s15 := RX_mk h13 (IM_keyfree h13.1.1 (by rw [RX_112 h13]; omega) (by omega)) (fun j hj => mu_rowP (by omega)) (mu_cellP (by omega)) (fun j hj => mu_cellP (by unfold SK at hj; omega))
  have k15 : s15.1 89 (15 + n) = ci (-1) := mu_sameP
  clear_value s15
  refine ok_nn (ix_ok (E (b := 27) (by decide) (by decide)) (by omega) (by omega)) ?_
  extract_lets +onlyGivenNames s17
  have h17 : RX s s17 := RX_fe h15 (E (b := 27) (by decide) (by decide)) (by unfold fr kW kK SK; omega)
  have k17 : s17.1 89 (15 + n) = ci (-1) := (keepc (E (b := 27) (by decide) (by decide)) (by omega) (by omega) : s17.1 89 (15 + n) = s15.1 89 (15 + n)).trans k15
  clear_value s17
  unfold F_X12_guest_L94
  refine ok_whl (fun v => s.1 89 112 = v.1 ∧ RX s v.2.2 ∧ 0 ≤ v.2.1.toInt ∧ v.2.2.1 89 (15 + n) = ci (-1)) (fun v => mUp v.2.1) ⟨rfl, h17, show 0 ≤ (ci 0).toInt by decide, k17⟩ (fun v hv => ?_)
  obtain ⟨x3, x4, s1⟩ := v
  obtain ⟨r0, r1, r2, r3⟩ := hv
  have h0 : s.1 89 112 = x3 := r0
  have h1 : RX s s1 := r1
  have h2 : 0 ≤ x4.toInt := r2
  have h3 : s1.1 89 (15 + n) = ci (-1) := r3
  clear r0 r1 r2 r3
  have e3 : x3.toInt = (n : Int) := by rw [← h0]; exact en
  show ok (F_X12_guest_B94 x3 x4 s1) _
  unfold F_X12_guest_B94
  refine ok_ite (fun _ => ?_) (fun c => ?_)
  · extract_lets +onlyGivenNames s19
    unfold F_X12_forgets
    have hq : ∀ s', s' = (mu s19.1 88 3 (ci 0), s19.2) → RW s1 s' := fun s' hs' => IM_guest h1.1.1 (by rw [RX_112 h1]; exact en) (by omega) h3 hs'
    have e19 : s19.1 89 112 = s1.1 89 112 + ci 1 := mu_sameP
    have k19 : ∀ j, j ≠ 112 → s19.1 89 j = s1.1 89 j := fun j hj => mu_cellP (Or.inr hj)
    clear_value s19
    refine ok_b1 (ok_some (Q := fun s' => s' = (mu s19.1 88 3 (ci 0), s19.2)) rfl) (fun s21 hs21 => ?_)
    have q112 : s21.1 89 112 = s1.1 89 112 + ci 1 := by rw [hs21]; exact (congrFun (mu_rowP (by decide)) 112).trans e19
    have qk : ∀ j, SK j → j ≠ 112 → s21.1 89 j = s1.1 89 j := fun j _ hj => by rw [hs21]; exact (congrFun (mu_rowP (by decide)) j).trans (k19 j hj)
    refine ok_some (lp_inr ⟨RW_tr h1.1 (hq s21 hs21), ?_, ?_, fun j hj hn => (qk j hj hn).trans (h1.2 j hj)⟩)
    · unfold gdr; rw [if_neg yes]; exact h0.symm
    · unfold gdl; rw [if_neg yes, q112, RX_112 h1]
  · have c4 := r_nle (by decide : (c8 6).toInt = 6) (rfl : x4.toInt = _) c
    have E2 : (((c8 39) + ((c8 6) * x3)) + x4).toInt = 39 + 6 * (n : Int) + x4.toInt := r_add (r_add (by decide) (r_mul (by decide) e3 (by omega) (by omega)) (by omega) (by omega)) rfl (by omega) (by omega)
    refine ok_nn (ix_ok E2 (by omega) (by omega)) ?_
    extract_lets +onlyGivenNames s23
    have h23 : RX s s23 := RX_fe h1 E2 (by clear E2; unfold fr kW kK SK; omega)
    have k23 : s23.1 89 (15 + n) = ci (-1) := (keepc E2 (by clear E2; omega) (by clear E2; omega) : s23.1 89 (15 + n) = s1.1 89 (15 + n)).trans h3
    clear_value s23
    clear E2
    exact ok_some (lp_inl ⟨h0, h23, up_0 (x := x4) h2 (by omega), k23⟩ (up_t (x := x4) (by omega)))
/-! callers and rooms -/
theorem IM_c1 {s : mG} {n : Nat} {v : Int32} (h : IM s) (hn : (s.1 89 1049).toInt ≤ n) (hn8 : n < 8) : IM (mu s.1 89 (1870 + 3 * n) v, s.2) := by
  have e112 : (mu s.1 89 (1870 + 3 * n) v, s.2).1 89 112 = s.1 89 112 := mu_cellP (by omega)
  refine IM_mk h ?_ ?_ e112 (mu_rowP (by decide)) (mu_rowP (by decide)) (mu_cellP (by omega)) (mu_cellP (by omega)) (mu_cellP (by omega))
  · obtain ⟨q1, q2, q3, q4, q5, q6, q7, q8, q9, q10, q11⟩ := h.1
    have c : ∀ j, j ≠ 1870 + 3 * n → (mu s.1 89 (1870 + 3 * n) v, s.2).1 89 j = s.1 89 j := fun j hj => mu_cellP (Or.inr hj)
    refine ⟨by rw [c _ (by omega)]; exact q1, by rw [c _ (by omega)]; exact q2, by rw [c _ (by omega)]; exact q3, by rw [c _ (by omega)]; exact q4, by rw [c _ (by omega)]; exact q5, by rw [c _ (by omega)]; exact q6, fun a ha => ?_, fun a ha hl => ?_, fun a ha hl => ?_, fun a ha hl => ?_, fun a ha hl => ?_⟩
    · rw [c _ (by omega)]; exact q7 a ha
    · rw [c _ (by omega)] at hl; rw [c _ (by omega)]; exact q8 a ha hl
    · rw [c _ (by omega)] at hl; rw [c _ (by omega)]; exact q9 a ha hl
    · rw [c _ (by omega)] at hl; rw [c _ (by omega)]; exact q10 a ha hl
    · rw [c _ (by omega)] at hl; exact LawOK_congr ha (fun j hj => c j (by omega)) (q11 a ha hl)
  · rw [e112]; exact KI_congr (fun j hj => mu_cellP (Or.inr (by unfold kK at hj; omega))) h.2.1
theorem IM_c2 {s : mG} {v : Int32} (h : IM s) (hv : 0 ≤ v.toInt ∧ v.toInt ≤ 8) (hc : ∀ k : Nat, k < 8 → (k : Int) < v.toInt → 0 ≤ (s.1 89 (1870 + 3 * k)).toInt ∧ (s.1 89 (1870 + 3 * k)).toInt < 12) : IM (mu s.1 89 1049 v, s.2) := by
  have e112 : (mu s.1 89 1049 v, s.2).1 89 112 = s.1 89 112 := mu_cellP (by omega)
  refine IM_mk h ?_ ?_ e112 (mu_rowP (by decide)) (mu_rowP (by decide)) (mu_cellP (by omega)) (mu_cellP (by omega)) (mu_cellP (by omega))
  · obtain ⟨q1, q2, q3, q4, q5, q6, q7, q8, q9, q10, q11⟩ := h.1
    have c : ∀ j, j ≠ 1049 → (mu s.1 89 1049 v, s.2).1 89 j = s.1 89 j := fun j hj => mu_cellP (Or.inr hj)
    have cv : (mu s.1 89 1049 v, s.2).1 89 1049 = v := mu_sameP
    refine ⟨by rw [c _ (by omega)]; exact q1, by rw [c _ (by omega)]; exact q2, by rw [c _ (by omega)]; exact q3, by rw [c _ (by omega)]; exact q4, by rw [c _ (by omega)]; exact q5, by rw [cv]; exact hv, fun a ha => ?_, fun a ha hl => ?_, fun a ha hl => ?_, fun a ha hl => ?_, fun a ha hl => ?_⟩
    · rw [c _ (by omega)]; exact q7 a ha
    · rw [c _ (by omega)] at hl; rw [c _ (by omega)]; exact q8 a ha hl
    · rw [c _ (by omega)] at hl; rw [c _ (by omega)]; exact q9 a ha hl
    · rw [cv] at hl; rw [c _ (by omega)]; exact hc a ha hl
    · rw [c _ (by omega)] at hl
      obtain ⟨x, y, z, w1, w2, w3, w4, w5, w6, w7, w8⟩ := q11 a ha hl
      exact ⟨x, y, z, w1, w2, w3, (c _ (by omega)).trans w4, (c _ (by omega)).trans w5, (c _ (by omega)).trans w6, Rc_congr _ _ _ _ (fun j _ _ => c _ (by omega)) w7, w8.imp id (Rc_congr _ _ _ _ (fun j _ _ => c _ (by omega)))⟩
  · rw [e112]; exact KI_congr (fun j hj => mu_cellP (Or.inr (by unfold kK at hj; omega))) h.2.1
def ig (a n : Int32) : Int32 := if a < 0 then ci 0 else if n ≤ a then ci 0 else ci 1
theorem ig_pb {a n : Int32} : PB (ig a n) := by
  unfold ig
  by_cases h : a < 0
  · rw [if_pos h]; exact pb0
  · rw [if_neg h]
    by_cases h2 : n ≤ a
    · rw [if_pos h2]; exact pb0
    · rw [if_neg h2]; exact pb1
theorem ig_f {a n : Int32} (h : ¬ ig a n = 0) : 0 ≤ a.toInt ∧ a.toInt < n.toInt := by
  unfold ig at h
  by_cases h1 : a < 0
  · rw [if_pos h1] at h; exact absurd (by decide) h
  · rw [if_neg h1] at h
    by_cases h2 : n ≤ a
    · rw [if_pos h2] at h; exact absurd (by decide) h
    · exact ⟨t_nn h1, r_nle rfl rfl h2⟩
theorem wi_ig {a n : Int32} (h : 0 ≤ n.toInt ∧ n.toInt ≤ 12) : wi a (ci 0) (n - ci 1) = ig a n := by
  have e : (n - ci 1).toInt = n.toInt - 1 := r_sub rfl (by decide : (ci 1).toInt = 1) (by omega) (by omega)
  have z : ci 0 = 0 := by decide
  have q : (n - ci 1 < a) = (n ≤ a) := by
    rw [Int32.lt_iff_toInt_lt, Int32.le_iff_toInt_le, e]
    exact propext ⟨fun h => by omega, fun h => by omega⟩
  unfold wi ig
  rw [z]
  by_cases h1 : a < 0
  · rw [if_pos h1, if_pos h1]
  · rw [if_neg h1, if_neg h1]
    by_cases h2 : n ≤ a
    · rw [if_pos h2, if_pos (q ▸ h2)]
    · rw [if_neg h2, if_neg (fun k => h2 (q ▸ k))]
theorem F_isGuest {s : mG} {a : Int32} (h : 0 ≤ (s.1 89 112).toInt ∧ (s.1 89 112).toInt ≤ 12) : F_X12_isGuest s a = some (ig a (s.1 89 112)) := by
  unfold F_X12_isGuest
  rw [F_isIn, b1_some, wi_ig h]
  exact if_pos ig_pb
def car (a1 a2 a3 n m : Int32) : Int32 := if a1 = ci (-1) then ci 0 else if ig a1 n = 0 ∨ wi a2 (ci 0) (c16 999) = 0 ∨ wi a3 (ci 0) (c16 999) = 0 ∨ m = c8 8 then ci (-1) else m + ci 1
def cal (a1 a2 a3 n m : Int32) : Int32 := if a1 = ci (-1) then ci 0 else if ig a1 n = 0 ∨ wi a2 (ci 0) (c16 999) = 0 ∨ wi a3 (ci 0) (c16 999) = 0 ∨ m = c8 8 then m else m + ci 1
def CA (a1 a2 a3 : Int32) (s : mG) (τ : Int32 × mG) : Prop := RW s τ.2 ∧ τ.1 = car a1 a2 a3 (s.1 89 112) (s.1 89 1049) ∧ τ.2.1 89 1049 = cal a1 a2 a3 (s.1 89 112) (s.1 89 1049) ∧ ∀ j, SK j → j ≠ 1049 → (j < 1870 ∨ 1893 < j) → τ.2.1 89 j = s.1 89 j
theorem T_X12_caller {a1 a2 a3 : Int32} {s : mG} (hI : IM s) : ok (F_X12_caller a1 a2 a3 s) (CA a1 a2 a3 s) := by
  have i := im_112 hI
  have i2 := im_1049 hI
  unfold F_X12_caller F_X12_caller_59
  have z : (ci 0).toInt = 0 := by decide
  by_cases c0 : a1 = ci (-1)
  · rw [if_pos c0]
    exact ok_some ⟨RW_mk (RW_refl hI) (IM_c2 hI (by rw [z]; omega) (fun k _ hk => by rw [z] at hk; omega)) (fun j hj => mu_rowP (by omega)) (mu_cellP (by omega)), by unfold car; rw [if_pos c0], mu_sameP.trans (by unfold cal; rw [if_pos c0]), fun j _ hj _ => mu_cellP (Or.inr hj)⟩
  · rw [if_neg c0]
    clear z
    have no : (ig a1 (s.1 89 112) = 0 ∨ wi a2 (ci 0) (c16 999) = 0 ∨ wi a3 (ci 0) (c16 999) = 0 ∨ s.1 89 1049 = c8 8) → ok (some ((ci (-1)), s)) (CA a1 a2 a3 s) := fun h => ok_some ⟨RW_refl hI, by unfold car; rw [if_neg c0, if_pos h], by unfold cal; rw [if_neg c0, if_pos h], fun _ _ _ _ => rfl⟩
    rw [F_isGuest i, b1_some]
    refine ok_ite (fun c4 => no (Or.inl c4)) (fun c4 => ?_)
    have f4 := ig_f c4
    rw [F_isIn, b1_some]
    refine ok_ite (fun d0 => no (Or.inr (Or.inl d0))) (fun d0 => ?_)
    rw [F_isIn, b1_some]
    refine ok_ite (fun d1 => no (Or.inr (Or.inr (Or.inl d1)))) (fun d1 => ?_)
    refine ok_ite (fun c => no (Or.inr (Or.inr (Or.inr c)))) (fun c => ?_)
    have yes : ¬ (ig a1 (s.1 89 112) = 0 ∨ wi a2 (ci 0) (c16 999) = 0 ∨ wi a3 (ci 0) (c16 999) = 0 ∨ s.1 89 1049 = c8 8) := fun h => h.elim c4 (fun h => h.elim d0 (fun h => h.elim d1 c))
    have c1 := r_ne (rfl : (s.1 89 1049).toInt = _) (by decide : (c8 8).toInt = 8) c
    obtain ⟨n, en⟩ : ∃ n : Nat, (s.1 89 1049).toInt = (n : Int) := ⟨(s.1 89 1049).toInt.toNat, by omega⟩
    extract_lets +onlyGivenNames v13
    have e : v13.toInt = 1870 + 3 * (n : Int) := r_add (by decide) (r_mul (by decide) en (by omega) (by omega)) (by omega) (by omega)
    clear_value v13
    refine ok_nn (ix_ok e (by omega) (by omega)) ?_
    rw [r_nat2 (m := 1870 + 3 * n) e (by omega)]
    extract_lets +onlyGivenNames s15
    have h15 : RW s s15 := RW_mk (RW_refl hI) (IM_c1 hI (by omega) (by omega)) (fun j hj => mu_rowP (by omega)) (mu_cellP (by omega))
    have k15 : ∀ k, k ≠ 1870 + 3 * n → s15.1 89 k = s.1 89 k := fun k hk => mu_cellP (Or.inr hk)
    have w15 : s15.1 89 (1870 + 3 * n) = a1 := mu_sameP
    clear_value s15
    refine ok_nn (ix_ok (r_add e (by decide : (ci 1).toInt = 1) (by omega) (by omega)) (by omega) (by omega)) ?_
    extract_lets +onlyGivenNames s17
    have h17 : RW s s17 := RW_fe h15 (r_add e (by decide : (ci 1).toInt = 1) (by omega) (by omega)) (by unfold fw kW kK; omega)
    have k17 : ∀ k : Nat, (1870 + 3 * (n : Int) + 1) ≠ k → s17.1 89 k = s15.1 89 k := fun k hk => keepc (r_add e (by decide : (ci 1).toInt = 1) (by omega) (by omega)) hk (by omega)
    clear_value s17
    refine ok_nn (ix_ok (r_add e (by decide : (ci 2).toInt = 2) (by omega) (by omega)) (by omega) (by omega)) ?_
    extract_lets +onlyGivenNames s19
    have h19 : RW s s19 := RW_fe h17 (r_add e (by decide : (ci 2).toInt = 2) (by omega) (by omega)) (by unfold fw kW kK; omega)
    have k19 : ∀ k : Nat, (1870 + 3 * (n : Int) + 2) ≠ k → s19.1 89 k = s17.1 89 k := fun k hk => keepc (r_add e (by decide : (ci 2).toInt = 2) (by omega) (by omega)) hk (by omega)
    clear_value s19
    have q : s19.1 89 1049 = s.1 89 1049 := by rw [k19 _ (by omega), k17 _ (by omega), k15 _ (by omega)]
    extract_lets +onlyGivenNames s20
    have I20 : IM s20 := by
      refine IM_c2 h19.1 (by rw [q, t_up (by omega)]; omega) (fun k hk hl => ?_)
      rw [q, t_up (by omega), en] at hl
      rw [k19 _ (by omega), k17 _ (by omega)]
      by_cases w : k = n
      · subst w; rw [w15]; omega
      · rw [k15 _ (by omega)]; exact hI.1.2.2.2.2.2.2.2.2.2.1 k hk (by omega)
    have h20 : RW s s20 := RW_mk h19 I20 (fun j hj => mu_rowP (by omega)) (mu_cellP (by omega))
    have e1 : s20.1 89 1049 = s19.1 89 1049 + ci 1 := mu_sameP
    have kk : ∀ j, j ≠ 1049 → s20.1 89 j = s19.1 89 j := fun j hj => mu_cellP (Or.inr hj)
    clear_value s20
    refine ok_some ⟨h20, ?_, ?_, fun j hj hn hr => ?_⟩
    · unfold car; rw [if_neg c0, if_neg yes, ← q]; exact e1
    · unfold cal; rw [if_neg c0, if_neg yes, ← q]; exact e1
    · rw [kk j hn, k19 _ (by omega), k17 _ (by omega), k15 _ (by omega)]
theorem IM_r1 {s : mG} {n : Nat} {v : Int32} (h : IM s) (hn : (s.1 89 118).toInt ≤ n) (hn8 : n < 8) : IM (mu s.1 89 (203 + 4 * n) v, s.2) := by
  have e112 : (mu s.1 89 (203 + 4 * n) v, s.2).1 89 112 = s.1 89 112 := mu_cellP (by omega)
  refine IM_mk h ?_ ?_ e112 (mu_rowP (by decide)) (mu_rowP (by decide)) (mu_cellP (by omega)) (mu_cellP (by omega)) (mu_cellP (by omega))
  · obtain ⟨q1, q2, q3, q4, q5, q6, q7, q8, q9, q10, q11⟩ := h.1
    have c : ∀ j, j ≠ 203 + 4 * n → (mu s.1 89 (203 + 4 * n) v, s.2).1 89 j = s.1 89 j := fun j hj => mu_cellP (Or.inr hj)
    refine ⟨by rw [c _ (by omega)]; exact q1, by rw [c _ (by omega)]; exact q2, by rw [c _ (by omega)]; exact q3, by rw [c _ (by omega)]; exact q4, by rw [c _ (by omega)]; exact q5, by rw [c _ (by omega)]; exact q6, fun a ha => ?_, fun a ha hl => ?_, fun a ha hl => ?_, fun a ha hl => ?_, fun a ha hl => ?_⟩
    · rw [c _ (by omega)]; exact q7 a ha
    · rw [c _ (by omega)] at hl; rw [c _ (by omega)]; exact q8 a ha hl
    · rw [c _ (by omega)] at hl; rw [c _ (by omega)]; exact q9 a ha hl
    · rw [c _ (by omega)] at hl; rw [c _ (by omega)]; exact q10 a ha hl
    · rw [c _ (by omega)] at hl; exact LawOK_congr ha (fun j hj => c j (by omega)) (q11 a ha hl)
  · rw [e112]; exact KI_congr (fun j hj => mu_cellP (Or.inr (by unfold kK at hj; omega))) h.2.1
theorem IM_r2 {s : mG} {v : Int32} (h : IM s) (hv : 0 ≤ v.toInt ∧ v.toInt ≤ 8) (hc : ∀ k : Nat, k < 8 → (k : Int) < v.toInt → 0 ≤ (s.1 89 (203 + 4 * k)).toInt ∧ (s.1 89 (203 + 4 * k)).toInt < 12) : IM (mu s.1 89 118 v, s.2) := by
  have e112 : (mu s.1 89 118 v, s.2).1 89 112 = s.1 89 112 := mu_cellP (by omega)
  refine IM_mk h ?_ ?_ e112 (mu_rowP (by decide)) (mu_rowP (by decide)) (mu_cellP (by omega)) (mu_cellP (by omega)) (mu_cellP (by omega))
  · obtain ⟨q1, q2, q3, q4, q5, q6, q7, q8, q9, q10, q11⟩ := h.1
    have c : ∀ j, j ≠ 118 → (mu s.1 89 118 v, s.2).1 89 j = s.1 89 j := fun j hj => mu_cellP (Or.inr hj)
    have cv : (mu s.1 89 118 v, s.2).1 89 118 = v := mu_sameP
    refine ⟨by rw [c _ (by omega)]; exact q1, by rw [c _ (by omega)]; exact q2, by rw [c _ (by omega)]; exact q3, by rw [c _ (by omega)]; exact q4, by rw [cv]; exact hv, by rw [c _ (by omega)]; exact q6, fun a ha => ?_, fun a ha hl => ?_, fun a ha hl => ?_, fun a ha hl => ?_, fun a ha hl => ?_⟩
    · rw [c _ (by omega)]; exact q7 a ha
    · rw [c _ (by omega)] at hl; rw [c _ (by omega)]; exact q8 a ha hl
    · rw [cv] at hl; rw [c _ (by omega)]; exact hc a ha hl
    · rw [c _ (by omega)] at hl; rw [c _ (by omega)]; exact q10 a ha hl
    · rw [c _ (by omega)] at hl; exact LawOK_congr ha (fun j hj => c j (by omega)) (q11 a ha hl)
  · rw [e112]; exact KI_congr (fun j hj => mu_cellP (Or.inr (by unfold kK at hj; omega))) h.2.1
def ror (a1 a2 a3 a4 n m : Int32) : Int32 := if a1 = ci (-1) then ci 0 else if ig a1 n = 0 ∨ wi a2 (ci 1) (c8 99) = 0 ∨ wi a3 (ci 1) (c16 999) = 0 ∨ wi a4 (ci 0) (c8 99) = 0 ∨ m = c8 8 then ci (-1) else m + ci 1
def rol (a1 a2 a3 a4 n m : Int32) : Int32 := if a1 = ci (-1) then ci 0 else if ig a1 n = 0 ∨ wi a2 (ci 1) (c8 99) = 0 ∨ wi a3 (ci 1) (c16 999) = 0 ∨ wi a4 (ci 0) (c8 99) = 0 ∨ m = c8 8 then m else m + ci 1
def RO (a1 a2 a3 a4 : Int32) (s : mG) (τ : Int32 × mG) : Prop := RW s τ.2 ∧ τ.1 = ror a1 a2 a3 a4 (s.1 89 112) (s.1 89 118) ∧ τ.2.1 89 118 = rol a1 a2 a3 a4 (s.1 89 112) (s.1 89 118) ∧ ∀ j, SK j → j ≠ 118 → (j < 203 ∨ 234 < j) → τ.2.1 89 j = s.1 89 j
theorem T_X12_room {a1 a2 a3 a4 : Int32} {s : mG} (hI : IM s) : ok (F_X12_room a1 a2 a3 a4 s) (RO a1 a2 a3 a4 s) := by
  have i := im_112 hI
  have i2 := im_118 hI
  unfold F_X12_room F_X12_room_67
  have z : (ci 0).toInt = 0 := by decide
  by_cases c0 : a1 = ci (-1)
  · rw [if_pos c0]
    exact ok_some ⟨RW_mk (RW_refl hI) (IM_r2 hI (by rw [z]; omega) (fun k _ hk => by rw [z] at hk; omega)) (fun j hj => mu_rowP (by omega)) (mu_cellP (by omega)), by unfold ror; rw [if_pos c0], mu_sameP.trans (by unfold rol; rw [if_pos c0]), fun j _ hj _ => mu_cellP (Or.inr hj)⟩
  · rw [if_neg c0]
    clear z
    have no : (ig a1 (s.1 89 112) = 0 ∨ wi a2 (ci 1) (c8 99) = 0 ∨ wi a3 (ci 1) (c16 999) = 0 ∨ wi a4 (ci 0) (c8 99) = 0 ∨ s.1 89 118 = c8 8) → ok (some ((ci (-1)), s)) (RO a1 a2 a3 a4 s) := fun h => ok_some ⟨RW_refl hI, by unfold ror; rw [if_neg c0, if_pos h], by unfold rol; rw [if_neg c0, if_pos h], fun _ _ _ _ => rfl⟩
    rw [F_isGuest i, b1_some]
    refine ok_ite (fun c4 => no (Or.inl c4)) (fun c4 => ?_)
    have f4 := ig_f c4
    rw [F_isIn, b1_some]
    refine ok_ite (fun d0 => no (Or.inr (Or.inl d0))) (fun d0 => ?_)
    rw [F_isIn, b1_some]
    refine ok_ite (fun d1 => no (Or.inr (Or.inr (Or.inl d1)))) (fun d1 => ?_)
    rw [F_isIn, b1_some]
    refine ok_ite (fun d2 => no (Or.inr (Or.inr (Or.inr (Or.inl d2))))) (fun d2 => ?_)
    refine ok_ite (fun c => no (Or.inr (Or.inr (Or.inr (Or.inr c))))) (fun c => ?_)
    have yes : ¬ (ig a1 (s.1 89 112) = 0 ∨ wi a2 (ci 1) (c8 99) = 0 ∨ wi a3 (ci 1) (c16 999) = 0 ∨ wi a4 (ci 0) (c8 99) = 0 ∨ s.1 89 118 = c8 8) := fun h => h.elim c4 (fun h => h.elim d0 (fun h => h.elim d1 (fun h => h.elim d2 c)))
    have c1 := r_ne (rfl : (s.1 89 118).toInt = _) (by decide : (c8 8).toInt = 8) c
    obtain ⟨n, en⟩ : ∃ n : Nat, (s.1 89 118).toInt = (n : Int) := ⟨(s.1 89 118).toInt.toNat, by omega⟩
    extract_lets +onlyGivenNames v16
    have e : v16.toInt = 203 + 4 * (n : Int) := r_add (by decide) (r_mul (by decide) en (by omega) (by omega)) (by omega) (by omega)
    clear_value v16
    refine ok_nn (ix_ok (r_add e (by decide : (ci 0).toInt = 0) (by omega) (by omega)) (by omega) (by omega)) ?_
    rw [r_nat2 (e := v16 + (ci 0)) (m := 203 + 4 * n) (r_add e (by decide : (ci 0).toInt = 0) (by omega) (by omega)) (by omega)]
    extract_lets +onlyGivenNames s18
    have h18 : RW s s18 := RW_mk (RW_refl hI) (IM_r1 hI (by omega) (by omega)) (fun j hj => mu_rowP (by omega)) (mu_cellP (by omega))
    have k18 : ∀ k, k ≠ 203 + 4 * n → s18.1 89 k = s.1 89 k := fun k hk => mu_cellP (Or.inr hk)
    have w18 : s18.1 89 (203 + 4 * n) = a1 := mu_sameP
    clear_value s18
    refine ok_nn (ix_ok (r_add e (by decide : (ci 1).toInt = 1) (by omega) (by omega)) (by omega) (by omega)) ?_
    extract_lets +onlyGivenNames s20
    have h20 : RW s s20 := RW_fe h18 (r_add e (by decide : (ci 1).toInt = 1) (by omega) (by omega)) (by unfold fw kW kK; omega)
    have k20 : ∀ k : Nat, (203 + 4 * (n : Int) + 1) ≠ k → s20.1 89 k = s18.1 89 k := fun k hk => keepc (r_add e (by decide : (ci 1).toInt = 1) (by omega) (by omega)) hk (by omega)
    clear_value s20
    refine ok_nn (ix_ok (r_add e (by decide : (ci 2).toInt = 2) (by omega) (by omega)) (by omega) (by omega)) ?_
    extract_lets +onlyGivenNames s22
    have h22 : RW s s22 := RW_fe h20 (r_add e (by decide : (ci 2).toInt = 2) (by omega) (by omega)) (by unfold fw kW kK; omega)
    have k22 : ∀ k : Nat, (203 + 4 * (n : Int) + 2) ≠ k → s22.1 89 k = s20.1 89 k := fun k hk => keepc (r_add e (by decide : (ci 2).toInt = 2) (by omega) (by omega)) hk (by omega)
    clear_value s22
    refine ok_nn (ix_ok (r_add e (by decide : (ci 3).toInt = 3) (by omega) (by omega)) (by omega) (by omega)) ?_
    extract_lets +onlyGivenNames s24
    have h24 : RW s s24 := RW_fe h22 (r_add e (by decide : (ci 3).toInt = 3) (by omega) (by omega)) (by unfold fw kW kK; omega)
    have k24 : ∀ k : Nat, (203 + 4 * (n : Int) + 3) ≠ k → s24.1 89 k = s22.1 89 k := fun k hk => keepc (r_add e (by decide : (ci 3).toInt = 3) (by omega) (by omega)) hk (by omega)
    clear_value s24
    have q : s24.1 89 118 = s.1 89 118 := by rw [k24 _ (by omega), k22 _ (by omega), k20 _ (by omega), k18 _ (by omega)]
    extract_lets +onlyGivenNames s25
    have I25 : IM s25 := by
      refine IM_r2 h24.1 (by rw [q, t_up (by omega)]; omega) (fun k hk hl => ?_)
      rw [q, t_up (by omega), en] at hl
      rw [k24 _ (by omega), k22 _ (by omega), k20 _ (by omega)]
      by_cases w : k = n
      · subst w; rw [w18]; omega
      · rw [k18 _ (by omega)]; exact hI.1.2.2.2.2.2.2.2.2.1 k hk (by omega)
    have h25 : RW s s25 := RW_mk h24 I25 (fun j hj => mu_rowP (by omega)) (mu_cellP (by omega))
    have e1 : s25.1 89 118 = s24.1 89 118 + ci 1 := mu_sameP
    have kk : ∀ j, j ≠ 118 → s25.1 89 j = s24.1 89 j := fun j hj => mu_cellP (Or.inr hj)
    clear_value s25
    refine ok_some ⟨h25, ?_, ?_, fun j hj hn hr => ?_⟩
    · unfold ror; rw [if_neg c0, if_neg yes, ← q]; exact e1
    · unfold rol; rw [if_neg c0, if_neg yes, ← q]; exact e1
    · rw [kk j hn, k24 _ (by omega), k22 _ (by omega), k20 _ (by omega), k18 _ (by omega)]
end
/-! 58.d.mut4 -/
section
/-! THE REFERENCE: the image; what is fed -/
def wsum (s s' : mG) : Prop := (∀ j, j ≠ 88 → j ≠ 89 → j ≠ 90 → s'.1 j = s.1 j)
theorem t_1894 : (c16 1894).toInt = 1894 := by decide
theorem img_67 {s1 : mG} {Q : Int32 × mG → Prop} (h : ∀ s', s' = (mu s1.1 88 4 (ci 1), s1.2) → Q (ci 1, s')) : ok (F_X12_image_67 s1) Q := by
  unfold F_X12_image_67
  exact ok_some (h _ rfl)
theorem img_take {s : mG} {a1 : Int32} (ha : ¬ a1 = 0) (hI : IM s) : ok (F_X12_image_13 a1 s) (fun τ => PB τ.1 ∧ RW s τ.2) := by
  unfold F_X12_image_13 F_X12_image_L15
  refine ok_whl (fun v => a1 = v.1 ∧ (∀ j, j ≠ 90 → v.2.2.1 j = s.1 j) ∧ 0 ≤ v.2.1.toInt ∧ v.2.1.toInt ≤ 1894 ∧ (∀ k : Nat, (k : Int) < v.2.1.toInt → v.2.2.1 90 k = s.1 89 k)) (fun v => mUp v.2.1) ⟨rfl, fun _ _ => rfl, show 0 ≤ (ci 0).toInt by decide, show (ci 0).toInt ≤ 1894 by decide, fun k (hk : (k : Int) < (ci 0).toInt) => by rw [show (ci 0).toInt = 0 by decide] at hk; omega⟩ (fun v hv => ?_)
  obtain ⟨x1, x2, s1⟩ := v
  obtain ⟨rfl, r1, r2, r3, r4⟩ := hv
  have h1 : ∀ j, j ≠ 90 → s1.1 j = s.1 j := r1
  have h2 : 0 ≤ x2.toInt := r2
  have h3 : x2.toInt ≤ 1894 := r3
  have h4 : ∀ k : Nat, (k : Int) < x2.toInt → s1.1 90 k = s.1 89 k := r4
  clear r1 r2 r3 r4
  show ok (F_X12_image_B15 a1 x2 s1) _
  unfold F_X12_image_B15
  refine ok_ite (fun c => ?_) (fun c => ?_)
  · have c2 := r_le t_1894 (rfl : x2.toInt = _) c
    rw [if_neg ha]
    refine ok_b1r (img_67 (fun s' hs' => ⟨pb1, ?_⟩))
    have row : ∀ j, j ≠ 88 → s'.1 j = s1.1 j := fun j hj => by rw [hs']; exact mu_rowP hj
    have cell : ∀ k, k ≠ 4 → s'.1 88 k = s1.1 88 k := fun k hk => by rw [hs']; exact mu_cellP (Or.inr hk)
    clear hs'
    have e89 : s'.1 89 = s.1 89 := (row 89 (by decide)).trans (h1 89 (by decide))
    have e91 : s'.1 91 = s.1 91 := (row 91 (by decide)).trans (h1 91 (by decide))
    have e90 : ∀ k : Nat, k < 1894 → s'.1 90 k = s.1 89 k := fun k hk => (congrFun (row 90 (by decide)) k).trans (h4 k (by omega))
    have e3 : s'.1 88 3 = s.1 88 3 := (cell 3 (by decide)).trans (congrFun (h1 88 (by decide)) 3)
    have e15 : s'.1 88 15 = s.1 88 15 := (cell 15 (by decide)).trans (congrFun (h1 88 (by decide)) 15)
    refine ⟨⟨by rw [e89]; exact hI.1, by rw [e89]; exact hI.2.1, fun _ => ⟨?_, ?_⟩, by rw [e3]; exact hI.2.2.2.1, by rw [e3, e89, e91]; exact hI.2.2.2.2.1, by rw [e15]; exact hI.2.2.2.2.2⟩, fun j hj => (row j (by omega)).trans (h1 j (by omega)), e15⟩
    · exact WI_congr (fun j hj => e90 j (by unfold kW at hj; omega)) hI.1
    · rw [e90 112 (by decide)]
      exact KI_congr (fun j hj => e90 j (by unfold kK at hj; omega)) hI.2.1
  · have c2 := r_nle t_1894 (rfl : x2.toInt = _) c
    rw [if_neg ha]
    refine ok_nn (ix_ok (rfl : x2.toInt = _) (by omega) (by omega)) ?_
    refine ok_nn (ix_ok (rfl : x2.toInt = _) (by omega) (by omega)) ?_
    rw [t_nat]
    extract_lets +onlyGivenNames s14
    have g1 : ∀ j, j ≠ 90 → s14.1 j = s.1 j := fun j hj => (mu_rowP hj : s14.1 j = s1.1 j).trans (h1 j hj)
    have g0 : s14.1 90 x2.toInt.toNat = s.1 89 x2.toInt.toNat := (mu_sameP : s14.1 90 x2.toInt.toNat = s1.1 89 x2.toInt.toNat).trans (by rw [h1 89 (by decide)])
    have g2 : ∀ k, k ≠ x2.toInt.toNat → s14.1 90 k = s1.1 90 k := fun k hk => mu_cellP (Or.inr hk)
    clear_value s14
    have g4 : ∀ k : Nat, (k : Int) < (x2 + ci 1).toInt → s14.1 90 k = s.1 89 k := by
      intro k hk
      rw [t_up (by omega)] at hk
      by_cases q : k = x2.toInt.toNat
      · subst q; exact g0
      · rw [g2 _ q]; exact h4 k (by omega)
    unfold F_X12_image_53
    exact ok_some (lp_inl ⟨rfl, g1, up_0 (x := x2) h2 (by omega), up_le (x := x2) (by omega) (by omega), g4⟩ (up_t (x := x2) (by omega)))
theorem img_give {s : mG} {a1 : Int32} (ha : a1 = 0) (hk : ¬ s.1 88 4 = 0) (hI : IM s) : ok (F_X12_image_13 a1 s) (fun τ => PB τ.1 ∧ RW s τ.2) := by
  have hkk := hI.2.2.1 hk
  unfold F_X12_image_13 F_X12_image_L15
  refine ok_whl (fun v => a1 = v.1 ∧ (∀ j, j ≠ 89 → v.2.2.1 j = s.1 j) ∧ 0 ≤ v.2.1.toInt ∧ v.2.1.toInt ≤ 1894 ∧ (∀ k : Nat, (k : Int) < v.2.1.toInt → v.2.2.1 89 k = s.1 90 k)) (fun v => mUp v.2.1) ⟨rfl, fun _ _ => rfl, show 0 ≤ (ci 0).toInt by decide, show (ci 0).toInt ≤ 1894 by decide, fun k (hk : (k : Int) < (ci 0).toInt) => by rw [show (ci 0).toInt = 0 by decide] at hk; omega⟩ (fun v hv => ?_)
  obtain ⟨x1, x2, s1⟩ := v
  obtain ⟨r0, r1, r2, r3, r4⟩ := hv
  have h0 : a1 = x1 := r0
  have h1 : ∀ j, j ≠ 89 → s1.1 j = s.1 j := r1
  have h2 : 0 ≤ x2.toInt := r2
  have h3 : x2.toInt ≤ 1894 := r3
  have h4 : ∀ k : Nat, (k : Int) < x2.toInt → s1.1 89 k = s.1 90 k := r4
  clear r0 r1 r2 r3 r4
  have hx : x1 = 0 := h0.symm.trans ha
  show ok (F_X12_image_B15 x1 x2 s1) _
  unfold F_X12_image_B15
  refine ok_ite (fun c => ?_) (fun c => ?_)
  · have c2 := r_le t_1894 (rfl : x2.toInt = _) c
    rw [if_pos hx]
    unfold F_X12_forgets
    refine ok_b1 (ok_some (Q := fun s' => s' = (mu s1.1 88 3 (ci 0), s1.2)) rfl) (fun s6 hs6 => ?_)
    refine ok_b1r (img_67 (fun s' hs' => ⟨pb1, ?_⟩))
    have row : ∀ j, j ≠ 88 → s'.1 j = s1.1 j := fun j hj => by rw [hs', hs6]; exact (mu_rowP hj).trans (mu_rowP hj)
    have cell : ∀ k, k ≠ 4 → k ≠ 3 → s'.1 88 k = s1.1 88 k := fun k hk hk3 => by rw [hs', hs6]; exact (mu_cellP (Or.inr hk)).trans (mu_cellP (Or.inr hk3))
    have e3 : s'.1 88 3 = ci 0 := by
      rw [hs', hs6]
      exact (mu_cellP (Or.inr (by decide))).trans mu_sameP
    clear hs' hs6
    have z : (ci 0).toInt = 0 := by decide
    have e89 : ∀ k : Nat, k < 1894 → s'.1 89 k = s.1 90 k := fun k hk => (congrFun (row 89 (by decide)) k).trans (h4 k (by omega))
    have e90 : s'.1 90 = s.1 90 := (row 90 (by decide)).trans (h1 90 (by decide))
    have e15 : s'.1 88 15 = s.1 88 15 := (cell 15 (by decide) (by decide)).trans (congrFun (h1 88 (by decide)) 15)
    refine ⟨⟨?_, ?_, fun _ => by rw [e90]; exact hkk, by rw [e3, z]; omega, fun j _ hl => by rw [e3, z] at hl; omega, by rw [e15]; exact hI.2.2.2.2.2⟩, fun j hj => (row j (by omega)).trans (h1 j (by omega)), e15⟩
    · exact WI_congr (fun j hj => e89 j (by unfold kW at hj; omega)) hkk.1
    · rw [e89 112 (by decide)]
      exact KI_congr (fun j hj => e89 j (by unfold kK at hj; omega)) hkk.2
  · have c2 := r_nle t_1894 (rfl : x2.toInt = _) c
    rw [if_pos hx]
    refine ok_nn (ix_ok (rfl : x2.toInt = _) (by omega) (by omega)) ?_
    refine ok_nn (ix_ok (rfl : x2.toInt = _) (by omega) (by omega)) ?_
    rw [t_nat]
    extract_lets +onlyGivenNames s11
    have g1 : ∀ j, j ≠ 89 → s11.1 j = s.1 j := fun j hj => (mu_rowP hj : s11.1 j = s1.1 j).trans (h1 j hj)
    have g0 : s11.1 89 x2.toInt.toNat = s.1 90 x2.toInt.toNat := (mu_sameP : s11.1 89 x2.toInt.toNat = s1.1 90 x2.toInt.toNat).trans (by rw [h1 90 (by decide)])
    have g2 : ∀ k, k ≠ x2.toInt.toNat → s11.1 89 k = s1.1 89 k := fun k hk => mu_cellP (Or.inr hk)
    clear_value s11
    have g4 : ∀ k : Nat, (k : Int) < (x2 + ci 1).toInt → s11.1 89 k = s.1 90 k := by
      intro k hk
      rw [t_up (by omega)] at hk
      by_cases q : k = x2.toInt.toNat
      · subst q; exact g0
      · rw [g2 _ q]; exact h4 k (by omega)
    unfold F_X12_image_53
    exact ok_some (lp_inl ⟨h0, g1, up_0 (x := x2) h2 (by omega), up_le (x := x2) (by omega) (by omega), g4⟩ (up_t (x := x2) (by omega)))
theorem T_X12_image {a1 : Int32} {s : mG} (hI : IM s) : ok (F_X12_image a1 s) (fun τ => PB τ.1 ∧ RW s τ.2) := by
  unfold F_X12_image
  refine ok_ite (fun c => ?_) (fun c => img_take c hI)
  refine ok_ite (fun _ => ok_some ⟨pb0, RW_refl hI⟩) (fun k => img_give c k hI)
/-! what is fed, and where the tape ends -/
def RF (s s' : mG) : Prop := IM s' ∧ (∀ j, j < 88 → s'.1 j = s.1 j) ∧ ∀ j, SK j → s'.1 89 j = s.1 89 j
theorem RF_RX {s s' : mG} (h : RX s s') : RF s s' := ⟨h.1.1, h.1.2.1, h.2⟩
theorem IM_taped {s s' : mG} (h : IM s) (row : ∀ j, j ≠ 88 → j ≠ 95 → s'.1 j = s.1 j) (e3 : s'.1 88 3 = s.1 88 3) (e4 : s'.1 88 4 = s.1 88 4) (h15 : 0 ≤ (s'.1 88 15).toInt ∧ (s'.1 88 15).toInt ≤ 400) : IM s' := by
  refine ⟨?_, ?_, ?_, by rw [e3]; exact h.2.2.2.1, ?_, h15⟩
  · rw [row 89 (by decide) (by decide)]; exact h.1
  · rw [row 89 (by decide) (by decide)]; exact h.2.1
  · rw [e4, row 90 (by decide) (by decide)]; exact h.2.2.1
  · rw [e3, row 91 (by decide) (by decide), row 89 (by decide) (by decide)]; exact h.2.2.2.2.1
theorem T_X12_feed {a1 a2 a3 a4 a5 : Int32} {s : mG} (hI : IM s) : ok (F_X12_feed a1 a2 a3 a4 a5 s) (fun τ => RF s τ.2 ∧ τ.1 = fdr (s.1 88 15) ∧ τ.2.1 88 15 = fdl (s.1 88 15)) := by
  have i := im_tape hI
  unfold F_X12_feed fdr fdl
  refine ok_ite (fun c => ?_) (fun c => ?_)
  · rw [if_pos c, if_pos c]
    have c1 := r_le (r_add (rfl : (s.1 88 15).toInt = _) (by decide : (c8 20).toInt = 20) (by omega) (by omega)) (by decide : (c16 400).toInt = 400) c
    unfold F_X12_feed_L18
    refine ok_whl (fun v => a1 = v.1 ∧ a2 = v.2.1 ∧ a3 = v.2.2.1 ∧ a4 = v.2.2.2.1 ∧ a5 = v.2.2.2.2.1 ∧ (∀ j, j ≠ 88 → j ≠ 95 → v.2.2.2.2.2.2.1 j = s.1 j) ∧ (∀ k, k ≠ 15 → v.2.2.2.2.2.2.1 88 k = s.1 88 k) ∧ 0 ≤ v.2.2.2.2.2.1.toInt ∧ v.2.2.2.2.2.1.toInt ≤ 20 ∧ v.2.2.2.2.2.2.1 88 15 = s.1 88 15 + v.2.2.2.2.2.1) (fun v => mUp v.2.2.2.2.2.1) ⟨rfl, rfl, rfl, rfl, rfl, fun _ _ _ => rfl, fun _ _ => rfl, show 0 ≤ (ci 0).toInt by decide, show (ci 0).toInt ≤ 20 by decide, show s.1 88 15 = s.1 88 15 + ci 0 by rw [show ci 0 = 0 by decide, Int32.add_zero]⟩ (fun v hv => ?_)
    obtain ⟨x1, x2, x3, x4, x5, x6, s1⟩ := v
    obtain ⟨rfl, rfl, rfl, rfl, rfl, r1, r2, r3, r4, r5⟩ := hv
    have h1 : ∀ j, j ≠ 88 → j ≠ 95 → s1.1 j = s.1 j := r1
    have h2 : ∀ k, k ≠ 15 → s1.1 88 k = s.1 88 k := r2
    have h3 : 0 ≤ x6.toInt := r3
    have h4 : x6.toInt ≤ 20 := r4
    have h5 : s1.1 88 15 = s.1 88 15 + x6 := r5
    clear r1 r2 r3 r4 r5
    have t5 : (s1.1 88 15).toInt = (s.1 88 15).toInt + x6.toInt := by rw [h5]; exact t_add (by omega) (by omega)
    show ok (F_X12_feed_B18 a1 a2 a3 a4 a5 x6 s1) _
    unfold F_X12_feed_B18
    refine ok_ite (fun q => ?_) (fun q => ?_)
    · have q1 := r_le (by decide : (c8 20).toInt = 20) (rfl : x6.toInt = _) q
      have e6 : x6 = c8 20 := Int32.toInt_inj.mp (by rw [(by decide : (c8 20).toInt = 20)]; omega)
      have e15 : s1.1 88 15 = s.1 88 15 + c8 20 := by rw [h5, e6]
      have b15 : 0 ≤ (s1.1 88 15).toInt ∧ (s1.1 88 15).toInt ≤ 400 := by omega
      refine ok_some (lp_inr ⟨⟨IM_taped hI h1 (h2 3 (by decide)) (h2 4 (by decide)) b15, fun j hj => h1 j (by omega) (by omega), fun j _ => congrFun (h1 89 (by decide) (by decide)) j⟩, e15, e15⟩)
    · have q1 := r_nle (by decide : (c8 20).toInt = 20) (rfl : x6.toInt = _) q
      have fin : ∀ y, ok (F_X12_feed_71 a1 a2 a3 a4 a5 x6 y s1) (fun r => ∃ s', r = Sum.inl (a1, a2, a3, a4, a5, x6 + ci 1, s') ∧ (∀ j, j ≠ 88 → j ≠ 95 → s'.1 j = s.1 j) ∧ (∀ k, k ≠ 15 → s'.1 88 k = s.1 88 k) ∧ s'.1 88 15 = s.1 88 15 + (x6 + ci 1)) := by
        intro y
        unfold F_X12_feed_71
        refine ok_nn (ix_ok t5 (by omega) (by omega)) ?_
        extract_lets +onlyGivenNames s8
        have g1 : ∀ j, j ≠ 95 → s8.1 j = s1.1 j := fun j hj => mu_rowP hj
        clear_value s8
        have g88 : s8.1 88 = s1.1 88 := g1 88 (by decide)
        extract_lets +onlyGivenNames s9
        have k1 : ∀ j, j ≠ 88 → s9.1 j = s8.1 j := fun j hj => mu_rowP hj
        have k2 : ∀ k, k ≠ 15 → s9.1 88 k = s8.1 88 k := fun k hk => mu_cellP (Or.inr hk)
        have k3 : s9.1 88 15 = s8.1 88 15 + ci 1 := mu_sameP
        clear_value s9
        exact ok_some ⟨s9, rfl, fun j h8 h9 => (k1 j h8).trans ((g1 j h9).trans (h1 j h8 h9)), fun k hk => (k2 k hk).trans ((congrFun g88 k).trans (h2 k hk)), by rw [k3, g88, h5, Int32.add_assoc]⟩
      have go : ∀ y, ok (F_X12_feed_71 a1 a2 a3 a4 a5 x6 y s1) (lpost (fun v => a1 = v.1 ∧ a2 = v.2.1 ∧ a3 = v.2.2.1 ∧ a4 = v.2.2.2.1 ∧ a5 = v.2.2.2.2.1 ∧ (∀ j, j ≠ 88 → j ≠ 95 → v.2.2.2.2.2.2.1 j = s.1 j) ∧ (∀ k, k ≠ 15 → v.2.2.2.2.2.2.1 88 k = s.1 88 k) ∧ 0 ≤ v.2.2.2.2.2.1.toInt ∧ v.2.2.2.2.2.1.toInt ≤ 20 ∧ v.2.2.2.2.2.2.1 88 15 = s.1 88 15 + v.2.2.2.2.2.1) (fun (v : Int32 × Int32 × Int32 × Int32 × Int32 × Int32 × mG) => mUp v.2.2.2.2.2.1) (mUp x6) (fun τ => RF s τ.2 ∧ τ.1 = s.1 88 15 + c8 20 ∧ τ.2.1 88 15 = s.1 88 15 + c8 20)) := by
        intro y
        refine ok_mono (fin y) ?_
        rintro _ ⟨s', rfl, g1, g2, g3⟩
        exact lp_inl ⟨rfl, rfl, rfl, rfl, rfl, g1, g2, up_0 (x := x6) h3 (by omega), up_le (x := x6) (by omega) (by omega), g3⟩ (up_t (x := x6) (by omega))
      refine ok_ite (fun _ => ?_) (fun _ => go _)
      refine ok_ite (fun _ => ?_) (fun _ => go _)
      refine ok_ite (fun _ => ?_) (fun _ => go _)
      exact ok_ite (fun _ => go _) (fun _ => go _)
  · rw [if_neg c, if_neg c]
    exact ok_some ⟨⟨hI, fun _ _ => rfl, fun _ _ => rfl⟩, rfl, rfl⟩
theorem T_X12_end {a1 : Int32} {s : mG} (hI : IM s) : ok (F_X12_end a1 s) (fun τ => RF s τ.2 ∧ τ.1 = enr a1 (s.1 88 15) ∧ τ.2.1 88 15 = enl a1 (s.1 88 15)) := by
  have i := im_tape hI
  unfold F_X12_end
  rw [F_isIn, b1_some]
  unfold enl enr
  by_cases h : wi a1 (ci 0) (s.1 88 15) = 0
  · rw [if_pos h, if_pos h, if_pos h]
    exact ok_some ⟨⟨hI, fun _ _ => rfl, fun _ _ => rfl⟩, rfl, rfl⟩
  · rw [if_neg h, if_neg h, if_neg h]
    have f := isin_f (a := a1) (by decide : (ci 0).toInt = 0) (rfl : (s.1 88 15).toInt = _) (wi_f h)
    refine ok_some ⟨⟨IM_taped hI (fun j h1 _ => mu_rowP h1) (mu_cellP (by omega)) (mu_cellP (by omega)) ?_, fun j hj => mu_rowP (by omega), fun j _ => mu_cellP (by omega)⟩, rfl, mu_sameP⟩
    rw [mu_sameP]; omega
end
/-! 59.a.parse -/
section
/-! THE REFERENCE READS A TEXT: its tokens -/
def RN (s s' : mG) : Prop := (∀ j, j ≠ 88 → s'.1 j = s.1 j) ∧ (∀ k, k ≠ 16 → k ≠ 17 → k ≠ 18 → k ≠ 19 → s'.1 88 k = s.1 88 k)
theorem RN_refl {s : mG} : RN s s := ⟨fun _ _ => rfl, fun _ _ _ _ _ => rfl⟩
theorem RN_tr {s s' s2 : mG} (h : RN s s') (k : RN s' s2) : RN s s2 := ⟨fun j hj => (k.1 j hj).trans (h.1 j hj), fun i h1 h2 h3 h4 => (k.2 i h1 h2 h3 h4).trans (h.2 i h1 h2 h3 h4)⟩
theorem RN_mu {s : mG} {k : Nat} {v : Int32} (hk : k = 16 ∨ k = 17 ∨ k = 18 ∨ k = 19) : RN s (mu s.1 88 k v, s.2) :=
  ⟨fun j hj => mu_rowP hj, fun i h1 h2 h3 h4 => mu_cellP (Or.inr (by omega))⟩
def PI (s : mG) : Prop := (s.1 88 15).toInt ≤ 400 ∧ 0 ≤ (s.1 88 18).toInt ∧ (s.1 88 18).toInt ≤ (s.1 88 16).toInt ∧ (s.1 88 16).toInt ≤ (s.1 88 15).toInt ∧ (s.1 88 17 ≠ 0 → (s.1 88 18).toInt < (s.1 88 16).toInt)
def P0 (s : mG) : Prop := (s.1 88 15).toInt ≤ 400 ∧ 0 ≤ (s.1 88 16).toInt ∧ (s.1 88 16).toInt ≤ (s.1 88 15).toInt
theorem PI_P0 {s : mG} (h : PI s) : P0 s := ⟨h.1, by have := h.2.1; have := h.2.2.1; omega, h.2.2.2.1⟩
def seeV (s : mG) (a : Int32) : Int32 := if s.1 88 15 ≤ a then ci (-1) else s.1 95 a.toNatClampNeg
theorem F_see {s : mG} {a : Int32} (h : (s.1 88 15).toInt ≤ 400) (h0 : 0 ≤ a.toInt) : F_X12_see s a = some (seeV s a) := by
  unfold F_X12_see seeV
  by_cases c : s.1 88 15 ≤ a
  · rw [if_pos c, if_pos c]
  · have c1 := r_nle (rfl : (s.1 88 15).toInt = _) (rfl : a.toInt = _) c
    rw [if_neg c, if_neg c, if_neg (ix_ok (rfl : a.toInt = _) h0 (by omega))]
def isLV (c : Int32) : Int32 := if wi c (c8 97) (c8 122) = 0 then (if wi c (c8 65) (c8 90) = 0 then ci 0 else ci 1) else ci 1
theorem F_isLetter {s : mG} {c : Int32} : F_X12_isLetter s c = some (isLV c) := by
  unfold F_X12_isLetter F_X12_isLetter_22 isLV
  rw [F_isIn, F_isIn, b1_some, b1_some]
  by_cases h1 : wi c (c8 97) (c8 122) = 0
  · rw [if_pos h1, if_pos h1]
    by_cases h2 : wi c (c8 65) (c8 90) = 0
    · rw [if_pos h2, if_pos h2]
    · rw [if_neg h2, if_neg h2]
  · rw [if_neg h1, if_neg h1]
theorem F_isDigit {s : mG} {c : Int32} : F_X12_isDigit s c = some (wi c (c8 48) (c8 57)) := by
  unfold F_X12_isDigit
  rw [F_isIn, b1_some]
  exact if_pos (wi_b _ _ _)
theorem see_lt {s : mG} {f : Int32 → Int32} (hf : f (ci (-1)) = 0) {a : Int32} (h : ¬ f (seeV s a) = 0) : a.toInt < (s.1 88 15).toInt := by
  refine Int.lt_of_not_ge fun q => h ?_
  unfold seeV
  rw [if_pos (Int32.le_iff_toInt_le.mpr q)]
  exact hf
theorem isLV_m : isLV (ci (-1)) = 0 := by decide
theorem isDV_m : wi (ci (-1)) (c8 48) (c8 57) = 0 := by decide
theorem see_ne {s : mG} {a c : Int32} (hc : ¬ ci (-1) = c) (h : seeV s a = c) : a.toInt < (s.1 88 15).toInt := by
  refine Int.lt_of_not_ge fun q => ?_
  unfold seeV at h
  rw [if_pos (Int32.le_iff_toInt_le.mpr q)] at h
  exact hc h
theorem see_m {s : mG} {a : Int32} (h : ¬ seeV s a = ci (-1)) : a.toInt < (s.1 88 15).toInt := by
  refine Int.lt_of_not_ge fun q => h ?_
  unfold seeV
  rw [if_pos (Int32.le_iff_toInt_le.mpr q)]
theorem T_X12_is {a1 : Nat} {s : mG} (h_a1 : 1000100 ≤ a1 ∧ a1 < 1000127) (h1 : 0 ≤ (s.1 88 18).toInt ∧ (s.1 88 18).toInt ≤ (s.1 88 16).toInt ∧ (s.1 88 16).toInt ≤ 400) : ok (F_X12_is a1 s) PT := by
  unfold F_X12_is
  rw [F_len h_a1, b1_some]
  have hl := m_sb_lt (a1 - 1000100)
  generalize hL : (m_sb.getD (a1 - 1000100) []).length = L at hl
  have tl : (cn L).toInt = (L : Int) := t_cn hl
  have main : ∀ y0, (¬ y0 = 0 → (s.1 88 16).toInt - (s.1 88 18).toInt = L) → PB y0 → ok (F_X12_is_21 a1 s y0) PT := by
    intro y0 hy hb
    unfold F_X12_is_21 F_X12_is_L24
    refine ok_whl (fun v => PB v.1 ∧ 0 ≤ v.2.toInt ∧ (¬ v.1 = 0 → (s.1 88 16).toInt - (s.1 88 18).toInt = L)) (fun v => mUp v.2) ⟨hb, show 0 ≤ (ci 0).toInt by decide, hy⟩ (fun v hv => ?_)
    obtain ⟨x2, x3⟩ := v
    obtain ⟨r1, r2, r3⟩ := hv
    have p1 : PB x2 := r1
    have p2 : 0 ≤ x3.toInt := r2
    have p3 : ¬ x2 = 0 → (s.1 88 16).toInt - (s.1 88 18).toInt = L := r3
    clear r1 r2 r3
    show ok (F_X12_is_B24 a1 s x2 x3) _
    unfold F_X12_is_B24 F_X12_is_67 F_X12_is_60
    rw [F_len h_a1, b1_some, hL]
    have fin : ok (b1 (if x2 = 0 ∨ x2 = 1 then some x2 else none) fun τ => some (Sum.inr τ)) (lpost (fun (v : Int32 × Int32) => PB v.1 ∧ 0 ≤ v.2.toInt ∧ (¬ v.1 = 0 → (s.1 88 16).toInt - (s.1 88 18).toInt = L)) (fun (v : Int32 × Int32) => mUp v.2) (mUp x3) (PT : Int32 → Prop)) := by
      rw [if_pos (show x2 = 0 ∨ x2 = 1 from p1)]; exact ok_some trivial
    refine ok_ite (fun _ => fin) (fun c => ?_)
    have c1 := r_nle tl (rfl : x3.toInt = _) c
    refine ok_ite (fun _ => fin) (fun c2 => ?_)
    have c3 := p3 c2
    refine ok_nn (ix_ok (r_add (rfl : (s.1 88 18).toInt = _) (rfl : x3.toInt = _) (by omega) (by omega)) (by omega) (by omega)) ?_
    refine ok_b1 (T_chr h_a1 (t_of_nn p2) (by rw [hL]; exact c)) (fun v11 _ => ?_)
    refine ok_ite (fun _ => ?_) (fun _ => ?_)
    · exact ok_some (lp_inl ⟨pb1, up_0 (x := x3) p2 (by omega), fun _ => c3⟩ (up_t (x := x3) (by omega)))
    · exact ok_some (lp_inl ⟨pb0, up_0 (x := x3) p2 (by omega), fun _ => c3⟩ (up_t (x := x3) (by omega)))
  refine ok_ite (fun c => ?_) (fun _ => ?_)
  · refine main _ (fun _ => ?_) pb1
    exact r_eq (r_sub (rfl : (s.1 88 16).toInt = _) (rfl : (s.1 88 18).toInt = _) (by omega) (by omega)) tl c
  · exact main _ (fun q => absurd (by decide) q) pb0
def Pw (s : mG) : Prop := 0 ≤ (s.1 88 18).toInt ∧ (s.1 88 18).toInt ≤ (s.1 88 16).toInt ∧ (s.1 88 16).toInt ≤ 400
theorem T_X12_wordOfLaw {s : mG} (h : Pw s) : ok (F_X12_wordOfLaw s) PT := by
  unfold F_X12_wordOfLaw
  repeat' (first | exact ok_some trivial | refine ok_b1 (T_X12_is (by decide) h) (fun _ _ => ?_) | refine ok_ite (fun _ => ?_) (fun _ => ?_))
theorem T_X12_asked {s : mG} (h : Pw s) : ok (F_X12_asked s) PT := by
  unfold F_X12_asked
  repeat' (first | exact ok_some trivial | refine ok_b1 (T_X12_is (by decide) h) (fun _ _ => ?_) | refine ok_b1 (T_X12_wordOfLaw h) (fun _ _ => ?_) | refine ok_ite (fun _ => ?_) (fun _ => ?_))
theorem T_X12_lawWord {s : mG} (h : Pw s) : ok (F_X12_lawWord s) PT := by
  unfold F_X12_lawWord
  repeat' (first | exact ok_some trivial | refine ok_b1 (T_X12_is (by decide) h) (fun _ _ => ?_) | refine ok_b1 (T_X12_asked h) (fun _ _ => ?_) | refine ok_ite (fun _ => ?_) (fun _ => ?_))
theorem T_X12_signWord {s : mG} (h : Pw s) : ok (F_X12_signWord s) PT := by
  unfold F_X12_signWord
  repeat' (first | exact ok_some trivial | refine ok_b1 (T_X12_is (by decide) h) (fun _ _ => ?_) | refine ok_ite (fun _ => ?_) (fun _ => ?_))
theorem T_X12_shiftWord {s : mG} (h : Pw s) : ok (F_X12_shiftWord s) PT := by
  unfold F_X12_shiftWord
  repeat' (first | exact ok_some trivial | refine ok_b1 (T_X12_is (by decide) h) (fun _ _ => ?_) | refine ok_ite (fun _ => ?_) (fun _ => ?_))
theorem T_X12_word {s : mG} (h : Pw s) : ok (F_X12_word s) PT := by
  unfold F_X12_word
  refine ok_ite (fun _ => ?_) (fun _ => ok_ite (fun _ => ?_) (fun _ => ?_))
  · exact ok_b1 (T_X12_lawWord h) (fun _ _ => ok_some trivial)
  · exact ok_b1 (T_X12_signWord h) (fun _ _ => ok_some trivial)
  · exact ok_b1 (T_X12_shiftWord h) (fun _ _ => ok_some trivial)
/-- what a next token brings -/
def NX (s s' : mG) : Prop := RN s s' ∧ PI s' ∧ (s.1 88 16).toInt ≤ (s'.1 88 18).toInt
/-- within a token that began at b -/
def IT (s : mG) (b : Int) (f : Int32 → Int32) (s1 : mG) : Prop := RN s s1 ∧ (s1.1 88 18).toInt = b ∧ b ≤ (s1.1 88 16).toInt ∧ (s1.1 88 16).toInt ≤ (s.1 88 15).toInt ∧ ((s1.1 88 16).toInt = b → ¬ f (seeV s1 (s1.1 88 16)) = 0)
theorem at_up {s1 : mG} {t : Int} (h : (s1.1 88 16).toInt < t) (ht : t ≤ 400) : (((mu s1.1 88 16 ((s1.1 88 16) + (ci 1)), s1.2) : mG).1 88 16).toInt = (s1.1 88 16).toInt + 1 := by
  rw [mu_sameP, t_up (by omega)]
theorem nx_letters {s s0 : mG} {b : Int} (h0 : P0 s) (hb : 0 ≤ b) (hsb : (s.1 88 16).toInt ≤ b) (h : IT s b isLV s0) : ok (F_X12_next0_L76 s0) (NX s) := by
  unfold F_X12_next0_L76
  refine ok_whl (fun v => IT s b isLV v) (fun v => mUp (v.1 88 16)) h (fun s1 hv => ?_)
  have h1 : IT s b isLV s1 := hv
  clear hv
  obtain ⟨hr, e18, hle, hlt, hne⟩ := h1
  have e15 : s1.1 88 15 = s.1 88 15 := hr.2 15 (by decide) (by decide) (by decide) (by decide)
  have i0 := h0.1
  show ok (F_X12_next0_B76 s1) _
  unfold F_X12_next0_B76
  rw [F_see (by rw [e15]; exact h0.1) (by omega), b1_some, F_isLetter, b1_some]
  refine ok_ite (fun c => ?_) (fun c => ?_)
  · have hgt : b < (s1.1 88 16).toInt := by
      by_cases q : (s1.1 88 16).toInt = b
      · exact absurd c (hne q)
      · omega
    refine ok_b1 (T_X12_word ⟨by omega, by omega, by omega⟩) (fun v51 _ => ?_)
    extract_lets +onlyGivenNames s52
    have g : RN s1 s52 := RN_mu (by omega)
    have g16 : s52.1 88 16 = s1.1 88 16 := mu_cellP (by omega)
    have g18 : s52.1 88 18 = s1.1 88 18 := mu_cellP (by omega)
    have g15 : s52.1 88 15 = s1.1 88 15 := mu_cellP (by omega)
    clear_value s52
    refine ok_some (lp_inr ⟨RN_tr hr g, ⟨by rw [g15, e15]; exact h0.1, by rw [g18]; omega, by rw [g18, g16]; omega, by rw [g16, g15, e15]; omega, fun _ => by rw [g18, g16]; omega⟩, by rw [g18]; omega⟩)
  · have hlt2 := see_lt isLV_m c
    rw [e15] at hlt2
    extract_lets +onlyGivenNames s53
    have g : RN s1 s53 := RN_mu (by omega)
    have g16 : (s53.1 88 16).toInt = (s1.1 88 16).toInt + 1 := at_up hlt2 (by omega)
    have gm : mUp (s53.1 88 16) < mUp (s1.1 88 16) := by unfold mUp; rw [g16]; omega
    have g18 : s53.1 88 18 = s1.1 88 18 := mu_cellP (by omega)
    clear_value s53
    exact ok_some (lp_inl (⟨RN_tr hr g, by rw [g18]; exact e18, by omega, by omega, fun q => by omega⟩ : IT s b isLV s53) gm)
theorem nx_digits {s s0 : mG} {b : Int} (h0 : P0 s) (hb : 0 ≤ b) (hsb : (s.1 88 16).toInt ≤ b) (h : IT s b (fun c => wi c (c8 48) (c8 57)) s0) : ok (F_X12_next0_L126 s0) (NX s) := by
  unfold F_X12_next0_L126
  refine ok_whl (fun v => IT s b (fun c => wi c (c8 48) (c8 57)) v) (fun v => mUp (v.1 88 16)) h (fun s1 hv => ?_)
  have h1 : IT s b (fun c => wi c (c8 48) (c8 57)) s1 := hv
  clear hv
  obtain ⟨hr, e18, hle, hlt, hne⟩ := h1
  have e15 : s1.1 88 15 = s.1 88 15 := hr.2 15 (by decide) (by decide) (by decide) (by decide)
  have i0 := h0.1
  show ok (F_X12_next0_B126 s1) _
  unfold F_X12_next0_B126
  rw [F_see (by rw [e15]; exact h0.1) (by omega), b1_some, F_isDigit, b1_some]
  refine ok_ite (fun c => ?_) (fun c => ?_)
  · have hgt : b < (s1.1 88 16).toInt := by
      by_cases q : (s1.1 88 16).toInt = b
      · exact absurd c (hne q)
      · omega
    have fin : ∀ y, ok (F_X12_next0_208 y s1) (NX s) := by
      intro y
      unfold F_X12_next0_208
      extract_lets +onlyGivenNames s52
      have g : RN s1 s52 := RN_mu (by omega)
      have g16 : s52.1 88 16 = s1.1 88 16 := mu_cellP (by omega)
      have g18 : s52.1 88 18 = s1.1 88 18 := mu_cellP (by omega)
      have g15 : s52.1 88 15 = s1.1 88 15 := mu_cellP (by omega)
      clear_value s52
      exact ok_some ⟨RN_tr hr g, ⟨by rw [g15, e15]; exact h0.1, by rw [g18]; omega, by rw [g18, g16]; omega, by rw [g16, g15, e15]; omega, fun _ => by rw [g18, g16]; omega⟩, by rw [g18]; omega⟩
    exact ok_ite (fun _ => ok_b1r (fin _)) (fun _ => ok_b1r (fin _))
  · have hlt2 := see_lt (f := fun c => wi c (c8 48) (c8 57)) isDV_m c
    rw [e15] at hlt2
    have fin : ∀ s2, RN s1 s2 → s2.1 88 16 = s1.1 88 16 → s2.1 88 18 = s1.1 88 18 → ok (F_X12_next0_176 s2) (lpost (fun v => IT s b (fun c => wi c (c8 48) (c8 57)) v) (fun v => mUp (v.1 88 16)) (mUp (s1.1 88 16)) (NX s)) := by
      intro s2 q1 q2 q3
      unfold F_X12_next0_176
      extract_lets +onlyGivenNames s53
      have g : RN s2 s53 := RN_mu (by omega)
      have g16 : (s53.1 88 16).toInt = (s1.1 88 16).toInt + 1 := by rw [← q2]; exact at_up (t := (s.1 88 15).toInt) (by rw [q2]; exact hlt2) (by omega)
      have gm : mUp (s53.1 88 16) < mUp (s1.1 88 16) := by unfold mUp; rw [g16]; omega
      have g18 : s53.1 88 18 = s2.1 88 18 := mu_cellP (by omega)
      clear_value s53
      exact ok_some (lp_inl (⟨RN_tr hr (RN_tr q1 g), by rw [g18, q3]; exact e18, by omega, by omega, fun q => by omega⟩ : IT s b (fun c => wi c (c8 48) (c8 57)) s53) gm)
    refine ok_ite (fun _ => fin s1 RN_refl rfl rfl) (fun _ => ?_)
    rw [b1_some]
    extract_lets +onlyGivenNames s44
    have g : RN s1 s44 := RN_mu (by omega)
    have g16 : s44.1 88 16 = s1.1 88 16 := mu_cellP (by omega)
    have g18 : s44.1 88 18 = s1.1 88 18 := mu_cellP (by omega)
    clear_value s44
    exact fin s44 g g16 g18
theorem T_X12_next0 {s : mG} (h0 : P0 s) : ok (F_X12_next0 s) (NX s) := by
  have i0 := h0.1
  have i1 := h0.2.1
  have i2 := h0.2.2
  unfold F_X12_next0 F_X12_next0_L0
  refine ok_whl (fun v => RN s v ∧ (s.1 88 16).toInt ≤ (v.1 88 16).toInt ∧ (v.1 88 16).toInt ≤ (s.1 88 15).toInt) (fun v => mUp (v.1 88 16)) ⟨RN_refl, by omega, by omega⟩ (fun s1 hv => ?_)
  obtain ⟨r1, r2, r3⟩ := hv
  have hr : RN s s1 := r1
  have h1 : (s.1 88 16).toInt ≤ (s1.1 88 16).toInt := r2
  have h2 : (s1.1 88 16).toInt ≤ (s.1 88 15).toInt := r3
  clear r1 r2 r3
  have e15 : s1.1 88 15 = s.1 88 15 := hr.2 15 (by decide) (by decide) (by decide) (by decide)
  have fs : ∀ s2 : mG, s2.1 88 15 = s.1 88 15 → s2.1 88 16 = s1.1 88 16 → F_X12_see s2 (s2.1 88 16) = some (seeV s2 (s2.1 88 16)) := fun s2 q1 q2 => F_see (by rw [q1]; exact h0.1) (by rw [q2]; omega)
  show ok (F_X12_next0_B0 s1) _
  unfold F_X12_next0_B0
  rw [fs s1 e15 rfl, b1_some]
  have blank : ∀ c, ¬ ci (-1) = c → seeV s1 (s1.1 88 16) = c → ok (F_X12_next0_26 s1) (lpost (fun v => RN s v ∧ (s.1 88 16).toInt ≤ (v.1 88 16).toInt ∧ (v.1 88 16).toInt ≤ (s.1 88 15).toInt) (fun v => mUp (v.1 88 16)) (mUp (s1.1 88 16)) (NX s)) := by
    intro c hc he
    have hlt := see_ne hc he
    rw [e15] at hlt
    unfold F_X12_next0_26
    extract_lets +onlyGivenNames s4
    have g : RN s1 s4 := RN_mu (by omega)
    have g16 : (s4.1 88 16).toInt = (s1.1 88 16).toInt + 1 := at_up hlt (by omega)
    have gm : mUp (s4.1 88 16) < mUp (s1.1 88 16) := by unfold mUp; rw [g16]; omega
    clear_value s4
    exact ok_some (lp_inl ⟨RN_tr hr g, by omega, by omega⟩ gm)
  refine ok_ite (fun c => blank _ (by decide) c) (fun _ => ?_)
  rw [b1_some]
  refine ok_ite (fun c => blank _ (by decide) c) (fun _ => ?_)
  extract_lets +onlyGivenNames s8
  have g : RN s1 s8 := RN_mu (by omega)
  have g16 : s8.1 88 16 = s1.1 88 16 := mu_cellP (by omega)
  have g18 : s8.1 88 18 = s1.1 88 16 := mu_sameP
  have g15 : s8.1 88 15 = s1.1 88 15 := mu_cellP (by omega)
  clear_value s8
  have hr8 : RN s s8 := RN_tr hr g
  rw [fs s8 (g15.trans e15) g16, b1_some]
  refine ok_ite (fun c => ?_) (fun c => ?_)
  · extract_lets +onlyGivenNames s12
    have k : RN s8 s12 := RN_mu (by omega)
    have k16 : s12.1 88 16 = s8.1 88 16 := mu_cellP (by omega)
    have k18 : s12.1 88 18 = s8.1 88 18 := mu_cellP (by omega)
    have k15 : s12.1 88 15 = s8.1 88 15 := mu_cellP (by omega)
    have k17 : s12.1 88 17 = ci 0 := mu_sameP
    clear_value s12
    exact ok_some (lp_inr ⟨RN_tr hr8 k, ⟨by rw [k15, g15, e15]; exact h0.1, by rw [k18, g18]; omega, by rw [k18, g18, k16, g16]; omega, by rw [k16, g16, k15, g15, e15]; exact h2, fun q => absurd (k17.trans (by decide)) q⟩, by rw [k18, g18]; exact h1⟩)
  · have hlt := see_m c
    rw [g16, g15, e15] at hlt
    rw [F_isLetter, b1_some]
    refine ok_ite (fun cl => ?_) (fun cl => ?_)
    · rw [F_isDigit, b1_some]
      refine ok_ite (fun cd => ?_) (fun cd => ?_)
      · extract_lets +onlyGivenNames s19
        have k : RN s8 s19 := RN_mu (by omega)
        have k16 : (s19.1 88 16).toInt = (s1.1 88 16).toInt + 1 := by rw [← g16]; exact at_up (t := (s.1 88 15).toInt) (by rw [g16]; exact hlt) (by omega)
        have k18 : s19.1 88 18 = s8.1 88 18 := mu_cellP (by omega)
        have k15 : s19.1 88 15 = s8.1 88 15 := mu_cellP (by omega)
        clear_value s19
        have fin3 : ∀ y, ok (F_X12_next0_303 y s19) (NX s) := by
          intro y
          unfold F_X12_next0_303
          extract_lets +onlyGivenNames s22
          have m : RN s19 s22 := RN_mu (by omega)
          have m16 : s22.1 88 16 = s19.1 88 16 := mu_cellP (by omega)
          have m18 : s22.1 88 18 = s19.1 88 18 := mu_cellP (by omega)
          have m15 : s22.1 88 15 = s19.1 88 15 := mu_cellP (by omega)
          clear_value s22
          exact ok_some ⟨RN_tr hr8 (RN_tr k m), ⟨by rw [m15, k15, g15, e15]; exact h0.1, by rw [m18, k18, g18]; omega, by rw [m18, k18, g18, m16]; omega, by rw [m16, m15, k15, g15, e15]; omega, fun _ => by rw [m18, k18, g18, m16]; omega⟩, by rw [m18, k18, g18]; exact h1⟩
        have fin2 : ∀ x y, ok (F_X12_next0_289 x y s19) (NX s) := by
          intro x y
          unfold F_X12_next0_289
          exact ok_ite (fun _ => fin3 _) (fun _ => fin3 _)
        have fin1 : ∀ x, ok (F_X12_next0_284 x s19) (NX s) := fun x => fin2 _ _
        repeat' (first | exact ok_b1r (fin1 _) | exact ok_b1r (fin2 _ _) | refine ok_ite (fun _ => ?_) (fun _ => ?_))
      · extract_lets +onlyGivenNames s32
        have k : RN s8 s32 := RN_mu (by omega)
        have k16 : s32.1 88 16 = s8.1 88 16 := mu_cellP (by omega)
        have k18 : s32.1 88 18 = s8.1 88 18 := mu_cellP (by omega)
        have k15 : s32.1 88 15 = s8.1 88 15 := mu_cellP (by omega)
        have k95 : s32.1 95 = s8.1 95 := mu_rowP (by decide)
        clear_value s32
        refine ok_b1r (nx_digits (b := (s1.1 88 16).toInt) h0 (by omega) h1 ⟨RN_tr hr8 k, by rw [k18, g18], by rw [k16, g16]; omega, by rw [k16, g16]; exact h2, fun _ => ?_⟩)
        unfold seeV
        rw [k15, k16, k95]
        exact cd
    · refine ok_b1r (nx_letters (b := (s1.1 88 16).toInt) h0 (by omega) h1 ⟨hr8, by rw [g18], by rw [g16]; omega, by rw [g16]; exact h2, fun _ => cl⟩)
end
/-! 59.b.parse2 -/
section
/-! THE REFERENCE READS A TEXT: sums and tests -/
def kE (k : Nat) : Prop := k < 13 ∨ k = 14 ∨ k = 15 ∨ k = 22 ∨ 24 ≤ k
def RE (s s' : mG) : Prop := (∀ j, j ≠ 88 → j ≠ 93 → s'.1 j = s.1 j) ∧ (∀ k, kE k → s'.1 88 k = s.1 88 k)
theorem RE_refl {s : mG} : RE s s := ⟨fun _ _ _ => rfl, fun _ _ => rfl⟩
theorem RE_tr {s s' s2 : mG} (h : RE s s') (k : RE s' s2) : RE s s2 := ⟨fun j h1 h2 => (k.1 j h1 h2).trans (h.1 j h1 h2), fun i h1 => (k.2 i h1).trans (h.2 i h1)⟩
theorem RE_RN {s s' : mG} (h : RN s s') : RE s s' := ⟨fun j h1 _ => h.1 j h1, fun k hk => h.2 k (by unfold kE at hk; omega) (by unfold kE at hk; omega) (by unfold kE at hk; omega) (by unfold kE at hk; omega)⟩
theorem RE_mu {s : mG} {k : Nat} {v : Int32} (hk : ¬ kE k) : RE s (mu s.1 88 k v, s.2) := ⟨fun j h1 _ => mu_rowP h1, fun i hi => mu_cellP (Or.inr fun e => hk (e ▸ hi))⟩
def HH (s s' : mG) (d : Nat) (σ : Int) : Prop :=
  0 ≤ (s.1 88 13).toInt ∧ RE s s' ∧ PI s' ∧ (s.1 88 13).toInt ≤ (s'.1 88 13).toInt ∧ (s.1 88 18).toInt - (s.1 88 13).toInt + σ ≤ (s'.1 88 18).toInt - (s'.1 88 13).toInt ∧ (s.1 88 18).toInt ≤ (s'.1 88 18).toInt ∧ (∀ j : Nat, (j : Int) < 2 * (s.1 88 13).toInt → s'.1 93 j = s.1 93 j) ∧ ∀ h, Rc (s'.1 93) (s.1 88 13).toInt.toNat ((s'.1 88 13).toInt - (s.1 88 13).toInt).toNat h (h + d)
def PE (s : mG) : Prop := PI s ∧ 0 ≤ (s.1 88 13).toInt ∧ (s.1 88 13).toInt ≤ (s.1 88 18).toInt
theorem HH_refl {s : mG} (h : PI s) (h0 : 0 ≤ (s.1 88 13).toInt) : HH s s 0 0 :=
  ⟨h0, RE_refl, h, by omega, by omega, by omega, fun _ _ => rfl, fun h => by rw [Int.sub_self]; rfl⟩
theorem HH_weak {s s' : mG} {d : Nat} {σ σ' : Int} (h : HH s s' d σ) (hs : σ' ≤ σ) : HH s s' d σ' := by
  obtain ⟨a, b, c, d, e, f⟩ := h
  exact ⟨a, b, c, d, by omega, f⟩
theorem HH_nx {s s1 s2 : mG} {d : Nat} {σ : Int} (h : HH s s1 d σ) (k : NX s1 s2) : HH s s2 d (σ + ((s1.1 88 16).toInt - (s1.1 88 18).toInt)) := by
  obtain ⟨q0, q1, q2, q3, q4, q5, q6, q7⟩ := h
  have e13 : s2.1 88 13 = s1.1 88 13 := k.1.2 13 (by decide) (by decide) (by decide) (by decide)
  have e93 : s2.1 93 = s1.1 93 := k.1.1 93 (by decide)
  have k2 := k.2.2
  have p1 := q2.2.2.1
  refine ⟨q0, RE_tr q1 (RE_RN k.1), k.2.1, by rw [e13]; exact q3, by rw [e13]; omega, by omega, by rw [e93]; exact q6, by rw [e93, e13]; exact q7⟩
theorem HH_nx0 {s s1 s2 : mG} {d : Nat} {σ : Int} (h : HH s s1 d σ) (k : NX s1 s2) : HH s s2 d σ := HH_weak (HH_nx h k) (by have := h.2.2.1.2.2.1; omega)
theorem HH_nx1 {s s1 s2 : mG} {d : Nat} {σ : Int} (h : HH s s1 d σ) (k : NX s1 s2) (ht : s1.1 88 17 ≠ 0) : HH s s2 d (σ + 1) := HH_weak (HH_nx h k) (by have := h.2.2.1.2.2.2.2 ht; omega)
theorem HH_tr {s s1 s2 : mG} {d e : Nat} {σ τ : Int} (h : HH s s1 d σ) (k : HH s1 s2 e τ) : HH s s2 (d + e) (σ + τ) := by
  obtain ⟨q0, q1, q2, q3, q4, q5, q6, q7⟩ := h
  obtain ⟨w0, w1, w2, w3, w4, w5, w6, w7⟩ := k
  refine ⟨q0, RE_tr q1 w1, w2, by omega, by omega, by omega, fun j hj => (w6 j (by omega)).trans (q6 j hj), fun h => ?_⟩
  have r1 := Rc_congr _ _ _ _ (fun j _ hj => w6 j (by omega)) (q7 h)
  have r2 := w7 (h + d)
  rw [show (s1.1 88 13).toInt.toNat = (s.1 88 13).toInt.toNat + ((s1.1 88 13).toInt - (s.1 88 13).toInt).toNat by omega] at r2
  have r3 := Rc_trans _ _ _ _ _ _ r1 r2
  rw [show ((s1.1 88 13).toInt - (s.1 88 13).toInt).toNat + ((s2.1 88 13).toInt - (s1.1 88 13).toInt).toNat = ((s2.1 88 13).toInt - (s.1 88 13).toInt).toNat by omega, Nat.add_assoc] at r3
  exact r3
def LY (s s' : mG) (k v : Int32) : Prop := (∀ j, j ≠ 88 → j ≠ 93 → s'.1 j = s.1 j) ∧ (∀ i, i ≠ 13 → s'.1 88 i = s.1 88 i) ∧ (s'.1 88 13).toInt = (s.1 88 13).toInt + 1 ∧ s'.1 93 (2 * (s.1 88 13).toInt.toNat) = k ∧ s'.1 93 (2 * (s.1 88 13).toInt.toNat + 1) = v ∧ ∀ j, j ≠ 2 * (s.1 88 13).toInt.toNat → j ≠ 2 * (s.1 88 13).toInt.toNat + 1 → s'.1 93 j = s.1 93 j
theorem T_X12_lay {a1 a2 : Int32} {s : mG} (h0 : 0 ≤ (s.1 88 13).toInt) (h1 : (s.1 88 13).toInt ≤ 409) : ok (F_X12_lay a1 a2 s) (fun s' => LY s s' a1 a2) := by
  obtain ⟨n, en⟩ : ∃ n : Nat, (s.1 88 13).toInt = (n : Int) := ⟨(s.1 88 13).toInt.toNat, by omega⟩
  unfold F_X12_lay
  refine ok_nn (ix_ok (r_mul (by decide : (ci 2).toInt = 2) en (by omega) (by omega)) (by omega) (by omega)) ?_
  rw [r_nat2 (e := (ci 2) * (s.1 88 13)) (m := 2 * n) (r_mul (by decide : (ci 2).toInt = 2) en (by omega) (by omega)) (by omega)]
  extract_lets +onlyGivenNames s2
  have r2 : ∀ j, j ≠ 93 → s2.1 j = s.1 j := fun j hj => mu_rowP hj
  have c2 : ∀ j, j ≠ 2 * n → s2.1 93 j = s.1 93 j := fun j hj => mu_cellP (Or.inr hj)
  have v2 : s2.1 93 (2 * n) = a1 := mu_sameP
  clear_value s2
  have e13 : s2.1 88 13 = s.1 88 13 := congrFun (r2 88 (by decide)) 13
  rw [e13]
  refine ok_nn (ix_ok (r_add (r_mul (by decide : (ci 2).toInt = 2) en (by omega) (by omega)) (by decide : (ci 1).toInt = 1) (by omega) (by omega)) (by omega) (by omega)) ?_
  rw [r_nat2 (e := ((ci 2) * (s.1 88 13)) + (ci 1)) (m := 2 * n + 1) (r_add (r_mul (by decide : (ci 2).toInt = 2) en (by omega) (by omega)) (by decide : (ci 1).toInt = 1) (by omega) (by omega)) (by omega)]
  extract_lets +onlyGivenNames s4
  have r4 : ∀ j, j ≠ 93 → s4.1 j = s2.1 j := fun j hj => mu_rowP hj
  have c4 : ∀ j, j ≠ 2 * n + 1 → s4.1 93 j = s2.1 93 j := fun j hj => mu_cellP (Or.inr hj)
  have v4 : s4.1 93 (2 * n + 1) = a2 := mu_sameP
  clear_value s4
  have f13 : s4.1 88 13 = s.1 88 13 := (congrFun (r4 88 (by decide)) 13).trans e13
  extract_lets +onlyGivenNames s5
  have r5 : ∀ j, j ≠ 88 → s5.1 j = s4.1 j := fun j hj => mu_rowP hj
  have c5 : ∀ j, j ≠ 13 → s5.1 88 j = s4.1 88 j := fun j hj => mu_cellP (Or.inr hj)
  have v5 : s5.1 88 13 = s4.1 88 13 + ci 1 := mu_sameP
  clear_value s5
  have g93 : s5.1 93 = s4.1 93 := r5 93 (by decide)
  have g88 : s4.1 88 = s.1 88 := (r4 88 (by decide)).trans (r2 88 (by decide))
  refine ok_some ⟨fun j h8 h9 => (r5 j h8).trans ((r4 j h9).trans (r2 j h9)), fun i hi => (c5 i hi).trans (by rw [g88]), by rw [v5, f13, t_up (by omega)], ?_, ?_, fun j q1 q2 => ?_⟩
  · rw [en, g93]
    show s4.1 93 (2 * n) = a1
    rw [c4 _ (by omega)]; exact v2
  · rw [en, g93]
    exact v4
  · rw [en] at q1 q2
    have q1' : j ≠ 2 * n := q1
    have q2' : j ≠ 2 * n + 1 := q2
    rw [g93, c4 _ q2', c2 _ q1']
theorem HH_lay {s s1 s2 : mG} {k v : Int32} {d d' : Nat} {σ : Int} (h : HH s s1 d σ) (l : LY s1 s2 k v) (hs : ∀ h, stpv k v (h + d) = some (h + d')) : HH s s2 d' (σ - 1) := by
  obtain ⟨q0, q1, q2, q3, q4, q5, q6, q7⟩ := h
  obtain ⟨l1, l2, l3, l4, l5, l6⟩ := l
  have e15 := l2 15 (by decide)
  have e16 := l2 16 (by decide)
  have e17 := l2 17 (by decide)
  have e18 := l2 18 (by decide)
  refine ⟨q0, RE_tr q1 ⟨l1, fun k hk => l2 k (by unfold kE at hk; omega)⟩, ?_, by omega, by rw [e18]; omega, by rw [e18]; exact q5, fun j hj => (l6 j (by omega) (by omega)).trans (q6 j hj), fun h => ?_⟩
  · unfold PI; rw [e15, e16, e17, e18]; exact q2
  · have r1 := Rc_congr (c' := s2.1 93) _ _ _ _ (fun j _ hj => l6 j (by omega) (by omega)) (q7 h)
    have r2 : Rc (s2.1 93) ((s.1 88 13).toInt.toNat + ((s1.1 88 13).toInt - (s.1 88 13).toInt).toNat) 1 (h + d) (h + d') := by
      rw [show (s.1 88 13).toInt.toNat + ((s1.1 88 13).toInt - (s.1 88 13).toInt).toNat = (s1.1 88 13).toInt.toNat by omega]
      refine ⟨h + d', ?_, rfl⟩
      unfold stp
      rw [l4, l5]
      exact hs h
    have r3 := Rc_trans _ _ _ _ _ _ r1 r2
    rw [show ((s1.1 88 13).toInt - (s.1 88 13).toInt).toNat + 1 = ((s2.1 88 13).toInt - (s.1 88 13).toInt).toNat by omega] at r3
    exact r3
theorem HH_PE {s s1 : mG} {d : Nat} {σ : Int} (h : HH s s1 d σ) (hs : 0 ≤ σ) (hp : PE s) : PE s1 := by
  obtain ⟨q0, q1, q2, q3, q4, q5, q6, q7⟩ := h
  exact ⟨q2, by omega, by have := hp.2.2; omega⟩
theorem HH_st {s s1 : mG} {d : Nat} {σ : Int} (h : HH s s1 d σ) (hs : -5 ≤ σ) (hp : PE s) : 0 ≤ (s1.1 88 13).toInt ∧ (s1.1 88 13).toInt ≤ 409 := by
  obtain ⟨q0, q1, q2, q3, q4, q5, q6, q7⟩ := h
  have := hp.2.2
  have := q2.1
  have := q2.2.1
  have := q2.2.2.1
  have := q2.2.2.2.1
  exact ⟨by omega, by omega⟩
theorem HH_23 {s s1 : mG} {d : Nat} {σ : Int} {v : Int32} (h : HH s s1 d σ) : HH s (mu s1.1 88 23 v, s1.2) d σ := by
  obtain ⟨q0, q1, q2, q3, q4, q5, q6, q7⟩ := h
  have c : ∀ k, k ≠ 23 → (mu s1.1 88 23 v, s1.2).1 88 k = s1.1 88 k := fun k hk => mu_cellP (Or.inr hk)
  have e93 : (mu s1.1 88 23 v, s1.2).1 93 = s1.1 93 := mu_rowP (by decide)
  refine ⟨q0, RE_tr q1 (RE_mu (by unfold kE; omega)), ?_, ?_, ?_, ?_, ?_, ?_⟩
  · unfold PI; rw [c 15 (by decide), c 16 (by decide), c 17 (by decide), c 18 (by decide)]; exact q2
  · rw [c 13 (by decide)]; exact q3
  · rw [c 13 (by decide), c 18 (by decide)]; exact q4
  · rw [c 18 (by decide)]; exact q5
  · rw [e93]; exact q6
  · rw [e93, c 13 (by decide)]; exact q7
def PO (s : mG) (τ : Int32 × mG) : Prop := PB τ.1 ∧ RE s τ.2 ∧ (¬ τ.1 = 0 → HH s τ.2 1 0 ∧ τ.2.1 88 23 = s.1 88 23)
theorem z0 : ci 0 = 0 := by decide
theorem PO_no {s s' : mG} (h : RE s s') : PO s (ci 0, s') := ⟨pb0, h, fun q => absurd z0 q⟩
theorem T_X12_bad {a1 : Int32} {s : mG} : ok (F_X12_bad a1 s) (fun τ => τ.1 = ci 0 ∧ RE s τ.2) := by
  unfold F_X12_bad
  exact ok_some ⟨rfl, RE_tr (RE_mu (by unfold kE; omega)) (RE_mu (by unfold kE; omega))⟩
theorem bad_PO {a1 : Int32} {s0 s : mG} (h : RE s0 s) : ok (b2 (F_X12_bad a1 s) fun v s' => if v = 0 ∨ v = 1 then some (v, s') else none) (PO s0) := by
  refine ok_b2 T_X12_bad (fun v s' hq => ?_)
  have hv : v = ci 0 := hq.1
  have hr : RE s s' := hq.2
  subst hv
  rw [if_pos (show ci 0 = 0 ∨ ci 0 = 1 from pb0)]
  exact ok_some (PO_no (RE_tr h hr))
theorem bad_lp {a1 : Int32} {s0 s : mG} {P : mG → Prop} {μ : mG → Nat} {n : Nat} (h : RE s0 s) : ok (b2 (F_X12_bad a1 s) fun v s' => if v = 0 ∨ v = 1 then some (Sum.inr (v, s')) else none) (lpost P μ n (PO s0)) := by
  refine ok_b2 T_X12_bad (fun v s' hq => ?_)
  have hv : v = ci 0 := hq.1
  have hr : RE s s' := hq.2
  subst hv
  rw [if_pos (show ci 0 = 0 ∨ ci 0 = 1 from pb0)]
  exact ok_some (lp_inr (PO_no (RE_tr h hr)))
theorem T_X12_need {a1 : Int32} {s : mG} (h : P0 s) : ok (F_X12_need a1 s) (fun τ => PB τ.1 ∧ RE s τ.2 ∧ (¬ τ.1 = 0 → NX s τ.2 ∧ s.1 88 17 = a1)) := by
  unfold F_X12_need
  refine ok_ite (fun c => ?_) (fun _ => ?_)
  · refine ok_b1 (T_X12_next0 h) (fun s3 h3 => ?_)
    exact ok_some ⟨pb1, RE_RN h3.1, fun _ => ⟨h3, c⟩⟩
  · refine ok_b2 T_X12_bad (fun v s' hq => ?_)
    have hv : v = ci 0 := hq.1
    have hr : RE s s' := hq.2
    subst hv
    rw [if_pos (show ci 0 = 0 ∨ ci 0 = 1 from pb0)]
    exact ok_some ⟨pb0, hr, fun q => absurd z0 q⟩
theorem stp_push {k v : Int32} (h0 : 0 ≤ k.toInt ∧ k.toInt < 10) (h : Nat) : stpv k v (h + 0) = some (h + 1) := by
  unfold stpv
  rw [if_pos (by omega), if_pos h0]
theorem stp_bin {k v : Int32} (h1 : 23 ≤ k.toInt) (h2 : k.toInt ≠ 26) (h3 : k.toInt ≠ 30) (h : Nat) : stpv k v (h + 2) = some (h + 1) := by
  unfold stpv
  rw [if_neg (by omega), if_neg h2, if_neg h3, if_pos (by omega)]
  rfl
theorem stp_part {v : Int32} (hv : v ≠ 0) (h : Nat) : stpv (c8 26) v (h + 1) = some (h + 1) := by
  have e : (c8 26).toInt = 26 := by decide
  unfold stpv
  rw [e, if_neg (by decide), if_pos rfl, if_pos ⟨by omega, hv⟩]
theorem stp_not {v : Int32} (h : Nat) : stpv (c8 30) v (h + 1) = some (h + 1) := by
  have e : (c8 30).toInt = 30 := by decide
  unfold stpv
  rw [e, if_neg (by decide), if_neg (by decide), if_pos rfl, if_pos (by omega)]
theorem unit_46 {y1 : Int32} {s : mG} (h : PE s) (ht : s.1 88 17 ≠ 0) (hy : 0 ≤ y1.toInt ∧ y1.toInt < 10) : ok (F_X12_unit_46 y1 s) (PO s) := by
  unfold F_X12_unit_46
  have h0 := HH_refl h.1 h.2.1
  have b := HH_st h0 (by decide) h
  refine ok_b1 (T_X12_lay b.1 b.2) (fun s6 l6 => ?_)
  have h6 : HH s s6 1 (0 - 1) := HH_lay h0 l6 (stp_push hy)
  refine ok_b1 (T_X12_next0 (PI_P0 h6.2.2.1)) (fun s8 h8 => ?_)
  have g8 : HH s s8 1 (0 - 1 + 1) := HH_nx1 h6 h8 (by rw [l6.2.1 17 (by decide)]; exact ht)
  refine ok_some ⟨pb1, g8.2.1, fun _ => ⟨HH_weak g8 (by omega), ?_⟩⟩
  exact (h8.1.2 23 (by decide) (by decide) (by decide) (by decide)).trans (l6.2.1 23 (by decide))
theorem T_X12_unit {s : mG} (h : PE s) : ok (F_X12_unit s) (PO s) := by
  unfold F_X12_unit F_X12_unit_30
  rw [F_isIn, b1_some]
  have b1 : ¬ wi (s.1 88 17) (c8 41) (c8 49) = 0 → 41 ≤ (s.1 88 17).toInt ∧ (s.1 88 17).toInt ≤ 49 := fun q => isin_f (a := s.1 88 17) (by decide : (c8 41).toInt = 41) (by decide : (c8 49).toInt = 49) (wi_f q)
  have nz : ∀ {n : Int}, (s.1 88 17).toInt = n → n ≠ 0 → s.1 88 17 ≠ 0 := fun e hn q => by rw [q, t_zero] at e; exact hn e.symm
  refine ok_ite (fun c => ?_) (fun c => ?_)
  · have e2 : (s.1 88 17).toInt = 2 := by rw [c]; decide
    refine ok_ite (fun _ => ?_) (fun q => ?_)
    · exact unit_46 h (nz e2 (by decide)) (by rw [show (ci 0).toInt = 0 by decide]; omega)
    · have := b1 q
      omega
  · refine ok_ite (fun _ => bad_PO RE_refl) (fun q => ?_)
    have b2 := b1 q
    refine ok_ite (fun w => absurd w q) (fun _ => ?_)
    exact unit_46 h (nz rfl (by omega)) (by rw [r_sub (rfl : (s.1 88 17).toInt = _) (by decide : (c8 40).toInt = 40) (by omega) (by omega)]; omega)
theorem tok_ne {s : mG} {c : Int32} (h : s.1 88 17 = c) (hc : ¬ c = 0) : s.1 88 17 ≠ 0 := by rw [h]; exact hc
/-- a state of a loop over factors, terms, tests -/
def LQ (s v : mG) : Prop := HH s v 1 0 ∧ v.1 88 23 = s.1 88 23
theorem LQ_m {s1 s8 s11 s15 : mG} {k v : Int32} (ht : s1.1 88 17 ≠ 0) (hp : PI s1) (h8 : NX s1 s8) (h11 : (s8.1 88 18).toInt ≤ (s11.1 88 18).toInt) (l : LY s11 s15 k v) : mUp (s15.1 88 18) < mUp (s1.1 88 18) := by
  have a1 := hp.2.2.2.2 ht
  have a2 := h8.2.2
  have a3 := hp.1
  have a4 := hp.2.2.2.1
  unfold mUp
  rw [l.2.1 18 (by decide)]
  omega
theorem prod_44 {y0 : Int32} {s s1 : mG} (h : PE s) (h1 : LQ s s1) (ht : s1.1 88 17 ≠ 0) : ok (F_X12_product_44 y0 s1) (lpost (LQ s) (fun v => mUp (v.1 88 18)) (mUp (s1.1 88 18)) (PO s)) := by
  unfold F_X12_product_44 F_X12_product_112
  refine ok_b1 (T_X12_next0 (PI_P0 h1.1.2.2.1)) (fun s8 h8 => ?_)
  have g8 : HH s s8 1 (0 + 1) := HH_nx1 h1.1 h8 ht
  have p8 : PE s8 := HH_PE g8 (by decide) h
  have d8 : s8.1 88 23 = s.1 88 23 := (h8.1.2 23 (by decide) (by decide) (by decide) (by decide)).trans h1.2
  refine ok_ite (fun _ => ?_) (fun _ => ?_)
  · refine ok_b2 (T_X12_unit p8) (fun v12 s11 hq => ?_)
    have h11 : PO s8 (v12, s11) := hq
    clear hq
    refine ok_ite (fun _ => ok_some (lp_inr (PO_no (RE_tr g8.2.1 h11.2.1)))) (fun c => ?_)
    have k11 := h11.2.2 c
    have g11 : HH s s11 (1 + 1) (0 + 1 + 0) := HH_tr g8 k11.1
    have b := HH_st g11 (by decide) h
    refine ok_b1 (T_X12_lay b.1 b.2) (fun s15 l15 => ?_)
    have g15 := HH_lay g11 l15 (stp_bin (by decide) (by decide) (by decide))
    exact ok_some (lp_inl ⟨HH_weak g15 (by decide), (l15.2.1 23 (by decide)).trans (k11.2.trans d8)⟩ (LQ_m ht h1.1.2.2.1 h8 k11.1.2.2.2.2.2.1 l15))
  · refine ok_ite (fun c => ?_) (fun _ => bad_lp g8.2.1)
    refine ok_ite (fun _ => bad_lp g8.2.1) (fun cv => ?_)
    refine ok_b1 (T_X12_next0 (PI_P0 g8.2.2.1)) (fun s23 h23 => ?_)
    have g23 : HH s s23 1 (0 + 1 + 1) := HH_nx1 g8 h23 (tok_ne c (by decide))
    have b := HH_st g23 (by decide) h
    refine ok_b1 (T_X12_lay b.1 b.2) (fun s25 l25 => ?_)
    have g25 := HH_lay g23 l25 (stp_part cv)
    have m1 : (s8.1 88 18).toInt ≤ (s23.1 88 18).toInt := by have := g8.2.2.1.2.2.1; have := h23.2.2; omega
    exact ok_some (lp_inl ⟨HH_weak g25 (by decide), (l25.2.1 23 (by decide)).trans ((h23.1.2 23 (by decide) (by decide) (by decide) (by decide)).trans d8)⟩ (LQ_m ht h1.1.2.2.1 h8 m1 l25))
theorem T_X12_product {s : mG} (h : PE s) : ok (F_X12_product s) (PO s) := by
  unfold F_X12_product
  refine ok_b2 (T_X12_unit h) (fun v3 s2 hq => ?_)
  have h2 : PO s (v3, s2) := hq
  clear hq
  refine ok_ite (fun _ => ok_some (PO_no h2.2.1)) (fun c => ?_)
  unfold F_X12_product_L9
  refine ok_whl (LQ s) (fun v => mUp (v.1 88 18)) (h2.2.2 c) (fun s1 h1 => ?_)
  show ok (F_X12_product_B9 s1) _
  unfold F_X12_product_B9 F_X12_product_29
  have go : s1.1 88 17 ≠ 0 → ∀ y, ok (F_X12_product_44 y s1) (lpost (LQ s) (fun v => mUp (v.1 88 18)) (mUp (s1.1 88 18)) (PO s)) := fun ht y => prod_44 h h1 ht
  refine ok_ite (fun c => ?_) (fun _ => ok_ite (fun c => ?_) (fun _ => ?_))
  · exact ok_ite (fun _ => go (tok_ne c (by decide)) _) (fun _ => go (tok_ne c (by decide)) _)
  · exact ok_ite (fun _ => go (tok_ne c (by decide)) _) (fun _ => go (tok_ne c (by decide)) _)
  · exact ok_some (lp_inr ⟨pb1, h1.1.2.1, fun _ => h1⟩)
theorem sum_46 {y0 : Int32} {s s1 : mG} (h : PE s) (h1 : LQ s s1) (ht : s1.1 88 17 ≠ 0) (hy : y0 = c8 23 ∨ y0 = c8 24) : ok (F_X12_sumUp_46 y0 s1) (lpost (LQ s) (fun v => mUp (v.1 88 18)) (mUp (s1.1 88 18)) (PO s)) := by
  unfold F_X12_sumUp_46
  refine ok_b1 (T_X12_next0 (PI_P0 h1.1.2.2.1)) (fun s8 h8 => ?_)
  have g8 : HH s s8 1 (0 + 1) := HH_nx1 h1.1 h8 ht
  have p8 : PE s8 := HH_PE g8 (by decide) h
  have d8 : s8.1 88 23 = s.1 88 23 := (h8.1.2 23 (by decide) (by decide) (by decide) (by decide)).trans h1.2
  refine ok_b2 (T_X12_product p8) (fun v12 s11 hq => ?_)
  have h11 : PO s8 (v12, s11) := hq
  clear hq
  refine ok_ite (fun _ => ok_some (lp_inr (PO_no (RE_tr g8.2.1 h11.2.1)))) (fun c => ?_)
  have k11 := h11.2.2 c
  have g11 : HH s s11 (1 + 1) (0 + 1 + 0) := HH_tr g8 k11.1
  have b := HH_st g11 (by decide) h
  refine ok_b1 (T_X12_lay b.1 b.2) (fun s15 l15 => ?_)
  have hs : ∀ h, stpv y0 (ci 0) (h + 2) = some (h + 1) := by
    rcases hy with e | e
    · rw [e]; exact stp_bin (by decide) (by decide) (by decide)
    · rw [e]; exact stp_bin (by decide) (by decide) (by decide)
  have g15 := HH_lay g11 l15 hs
  exact ok_some (lp_inl ⟨HH_weak g15 (by decide), (l15.2.1 23 (by decide)).trans (k11.2.trans d8)⟩ (LQ_m ht h1.1.2.2.1 h8 k11.1.2.2.2.2.2.1 l15))
theorem T_X12_sumUp {s : mG} (h : PE s) : ok (F_X12_sumUp s) (PO s) := by
  unfold F_X12_sumUp
  refine ok_b2 (T_X12_product h) (fun v3 s2 hq => ?_)
  have h2 : PO s (v3, s2) := hq
  clear hq
  refine ok_ite (fun _ => ok_some (PO_no h2.2.1)) (fun c => ?_)
  unfold F_X12_sumUp_L9
  refine ok_whl (LQ s) (fun v => mUp (v.1 88 18)) (h2.2.2 c) (fun s1 h1 => ?_)
  show ok (F_X12_sumUp_B9 s1) _
  unfold F_X12_sumUp_B9 F_X12_sumUp_29
  refine ok_ite (fun c => ?_) (fun _ => ok_ite (fun c => ?_) (fun _ => ?_))
  · exact ok_ite (fun _ => sum_46 h h1 (tok_ne c (by decide)) (Or.inl rfl)) (fun _ => sum_46 h h1 (tok_ne c (by decide)) (Or.inr rfl))
  · exact ok_ite (fun _ => sum_46 h h1 (tok_ne c (by decide)) (Or.inl rfl)) (fun _ => sum_46 h h1 (tok_ne c (by decide)) (Or.inr rfl))
  · exact ok_some (lp_inr ⟨pb1, h1.1.2.1, fun _ => h1⟩)
theorem T_X12_every {rec : mG → Option (Int32 × mG)} {s : mG} (h : PE s) (hrec : ∀ s', PE s' → s'.1 88 23 = s.1 88 23 → ok (rec s') (PO s')) : ok (F_X12_every rec s) (PO s) := by
  unfold F_X12_every
  refine ok_b2 (hrec s h rfl) (fun v3 s2 hq => ?_)
  have h2 : PO s (v3, s2) := hq
  clear hq
  refine ok_ite (fun _ => ok_some (PO_no h2.2.1)) (fun c => ?_)
  unfold F_X12_every_L9
  refine ok_whl (LQ s) (fun v => mUp (v.1 88 18)) (h2.2.2 c) (fun s1 h1 => ?_)
  show ok (F_X12_every_B9 rec s1) _
  unfold F_X12_every_B9
  refine ok_ite (fun c => ?_) (fun _ => ok_some (lp_inr ⟨pb1, h1.1.2.1, fun _ => h1⟩))
  have ht := tok_ne c (by decide)
  refine ok_b1 (T_X12_next0 (PI_P0 h1.1.2.2.1)) (fun s8 h8 => ?_)
  have g8 : HH s s8 1 (0 + 1) := HH_nx1 h1.1 h8 ht
  have p8 : PE s8 := HH_PE g8 (by decide) h
  have d8 : s8.1 88 23 = s.1 88 23 := (h8.1.2 23 (by decide) (by decide) (by decide) (by decide)).trans h1.2
  refine ok_b2 (hrec s8 p8 d8) (fun v12 s11 hq => ?_)
  have h11 : PO s8 (v12, s11) := hq
  clear hq
  refine ok_ite (fun _ => ok_some (lp_inr (PO_no (RE_tr g8.2.1 h11.2.1)))) (fun c => ?_)
  have k11 := h11.2.2 c
  have g11 : HH s s11 (1 + 1) (0 + 1 + 0) := HH_tr g8 k11.1
  have b := HH_st g11 (by decide) h
  refine ok_b1 (T_X12_lay b.1 b.2) (fun s15 l15 => ?_)
  have g15 := HH_lay g11 l15 (stp_bin (by decide) (by decide) (by decide))
  exact ok_some (lp_inl ⟨HH_weak g15 (by decide), (l15.2.1 23 (by decide)).trans (k11.2.trans d8)⟩ (LQ_m ht h1.1.2.2.1 h8 k11.1.2.2.2.2.2.1 l15))
theorem T_X12_any {rec : mG → Option (Int32 × mG)} {s : mG} (h : PE s) (hrec : ∀ s', PE s' → s'.1 88 23 = s.1 88 23 → ok (rec s') (PO s')) : ok (F_X12_any rec s) (PO s) := by
  unfold F_X12_any
  refine ok_b2 (T_X12_every h hrec) (fun v3 s2 hq => ?_)
  have h2 : PO s (v3, s2) := hq
  clear hq
  refine ok_ite (fun _ => ok_some (PO_no h2.2.1)) (fun c => ?_)
  unfold F_X12_any_L9
  refine ok_whl (LQ s) (fun v => mUp (v.1 88 18)) (h2.2.2 c) (fun s1 h1 => ?_)
  show ok (F_X12_any_B9 rec s1) _
  unfold F_X12_any_B9
  refine ok_ite (fun c => ?_) (fun _ => ok_some (lp_inr ⟨pb1, h1.1.2.1, fun _ => h1⟩))
  have ht := tok_ne c (by decide)
  refine ok_b1 (T_X12_next0 (PI_P0 h1.1.2.2.1)) (fun s8 h8 => ?_)
  have g8 : HH s s8 1 (0 + 1) := HH_nx1 h1.1 h8 ht
  have p8 : PE s8 := HH_PE g8 (by decide) h
  have d8 : s8.1 88 23 = s.1 88 23 := (h8.1.2 23 (by decide) (by decide) (by decide) (by decide)).trans h1.2
  refine ok_b2 (T_X12_every p8 (fun s' p' e' => hrec s' p' (e'.trans d8))) (fun v12 s11 hq => ?_)
  have h11 : PO s8 (v12, s11) := hq
  clear hq
  refine ok_ite (fun _ => ok_some (lp_inr (PO_no (RE_tr g8.2.1 h11.2.1)))) (fun c => ?_)
  have k11 := h11.2.2 c
  have g11 : HH s s11 (1 + 1) (0 + 1 + 0) := HH_tr g8 k11.1
  have b := HH_st g11 (by decide) h
  refine ok_b1 (T_X12_lay b.1 b.2) (fun s15 l15 => ?_)
  have g15 := HH_lay g11 l15 (stp_bin (by decide) (by decide) (by decide))
  exact ok_some (lp_inl ⟨HH_weak g15 (by decide), (l15.2.1 23 (by decide)).trans (k11.2.trans d8)⟩ (LQ_m ht h1.1.2.2.1 h8 k11.1.2.2.2.2.2.1 l15))
theorem T_X12_opens {s : mG} (h : PE s) (ht : s.1 88 17 ≠ 0) : ok (F_X12_opens s) (fun τ => PB τ.1 ∧ RE s τ.2 ∧ (¬ τ.1 = 0 → (s.1 88 23).toInt ≠ 8 ∧ HH s τ.2 0 1 ∧ τ.2.1 88 23 = s.1 88 23 + ci 1)) := by
  unfold F_X12_opens
  refine ok_ite (fun _ => ?_) (fun c => ?_)
  · refine ok_b2 T_X12_bad (fun v s' hq => ?_)
    have hv : v = ci 0 := hq.1
    have hr : RE s s' := hq.2
    subst hv
    rw [if_pos (show ci 0 = 0 ∨ ci 0 = 1 from pb0)]
    exact ok_some ⟨pb0, hr, fun q => absurd z0 q⟩
  · have c8' := r_ne (rfl : (s.1 88 23).toInt = _) (by decide : (c8 8).toInt = 8) c
    extract_lets +onlyGivenNames s6
    have h6 : HH s s6 0 0 := HH_23 (HH_refl h.1 h.2.1)
    have e17 : s6.1 88 17 = s.1 88 17 := mu_cellP (by omega)
    have e23 : s6.1 88 23 = s.1 88 23 + ci 1 := mu_sameP
    clear_value s6
    refine ok_b1 (T_X12_next0 (PI_P0 h6.2.2.1)) (fun s8 h8 => ?_)
    have g8 := HH_nx1 h6 h8 (by rw [e17]; exact ht)
    exact ok_some ⟨pb1, g8.2.1, fun _ => ⟨c8', g8, (h8.1.2 23 (by decide) (by decide) (by decide) (by decide)).trans e23⟩⟩
theorem a1s1 (x : Int32) : x + ci 1 - ci 1 = x := Int32.add_sub_cancel x (ci 1)
theorem one_147 {rec : mG → Option (Int32 × mG)} {y0 : Int32} {s s1 : mG} (h : PE s) (h1 : LQ s s1) (ht : s1.1 88 17 ≠ 0) (hy : y0 = c8 27 ∨ y0 = c8 28 ∨ y0 = c8 29) : ok (F_X12_oneTest_147 rec y0 s1) (PO s) := by
  unfold F_X12_oneTest_147
  refine ok_ite (fun _ => bad_PO h1.1.2.1) (fun _ => ?_)
  refine ok_b1 (T_X12_next0 (PI_P0 h1.1.2.2.1)) (fun s8 h8 => ?_)
  have g8 : HH s s8 1 (0 + 1) := HH_nx1 h1.1 h8 ht
  have p8 : PE s8 := HH_PE g8 (by decide) h
  have d8 : s8.1 88 23 = s.1 88 23 := (h8.1.2 23 (by decide) (by decide) (by decide) (by decide)).trans h1.2
  refine ok_b2 (T_X12_sumUp p8) (fun v12 s11 hq => ?_)
  have h11 : PO s8 (v12, s11) := hq
  clear hq
  refine ok_ite (fun _ => ok_some (PO_no (RE_tr g8.2.1 h11.2.1))) (fun c => ?_)
  have k11 := h11.2.2 c
  have g11 : HH s s11 (1 + 1) (0 + 1 + 0) := HH_tr g8 k11.1
  have b := HH_st g11 (by decide) h
  refine ok_b1 (T_X12_lay b.1 b.2) (fun s15 l15 => ?_)
  have hs : ∀ h, stpv y0 (ci 0) (h + 2) = some (h + 1) := by
    rcases hy with e | e | e
    · rw [e]; exact stp_bin (by decide) (by decide) (by decide)
    · rw [e]; exact stp_bin (by decide) (by decide) (by decide)
    · rw [e]; exact stp_bin (by decide) (by decide) (by decide)
  have g15 := HH_lay g11 l15 hs
  exact ok_some ⟨pb1, g15.2.1, fun _ => ⟨HH_weak g15 (by decide), (l15.2.1 23 (by decide)).trans (k11.2.trans d8)⟩⟩
theorem T_X12_oneTest {rec : mG → Option (Int32 × mG)} {s : mG} (h : PE s) (hrec : (s.1 88 23).toInt ≠ 8 → ∀ s', PE s' → s'.1 88 23 = s.1 88 23 + ci 1 → ok (rec s') (PO s')) : ok (F_X12_oneTest rec s) (PO s) := by
  unfold F_X12_oneTest F_X12_oneTest_23 F_X12_oneTest_78
  refine ok_ite (fun c => ?_) (fun _ => ok_ite (fun c => ?_) (fun _ => ?_))
  · refine ok_b2 (T_X12_opens h (tok_ne c (by decide))) (fun v4 s3 hq => ?_)
    obtain ⟨_, h3, k3⟩ := hq
    refine ok_ite (fun _ => ok_some (PO_no h3)) (fun c4 => ?_)
    obtain ⟨k1, k2, k3⟩ := k3 c4
    have k2' : HH s s3 0 1 := k2
    have k3' : s3.1 88 23 = s.1 88 23 + ci 1 := k3
    refine ok_b2 (hrec k1 s3 (HH_PE k2' (by decide) h) k3') (fun v8 s7 hq => ?_)
    have h7 : PO s3 (v8, s7) := hq
    clear hq
    refine ok_ite (fun _ => ok_some (PO_no (RE_tr k2'.2.1 h7.2.1))) (fun c8' => ?_)
    have q7 := h7.2.2 c8'
    extract_lets +onlyGivenNames s10
    have g10 : HH s s10 (0 + 1) (1 + 0) := HH_23 (HH_tr k2' q7.1)
    have e10 : s10.1 88 23 = s7.1 88 23 - ci 1 := mu_sameP
    clear_value s10
    have b := HH_st g10 (by decide) h
    refine ok_b1 (T_X12_lay b.1 b.2) (fun s12 l12 => ?_)
    have g12 := HH_lay (d' := 1) g10 l12 (fun h => stp_not h)
    refine ok_some ⟨pb1, g12.2.1, fun _ => ⟨HH_weak g12 (by decide), ?_⟩⟩
    rw [show (ci 1, s12).2 = s12 from rfl, l12.2.1 23 (by decide), e10, q7.2, k3', a1s1]
  · refine ok_b2 (T_X12_opens h (tok_ne c (by decide))) (fun v16 s15 hq => ?_)
    obtain ⟨_, h3, k3⟩ := hq
    refine ok_ite (fun _ => ok_some (PO_no h3)) (fun c4 => ?_)
    obtain ⟨k1, k2, k3⟩ := k3 c4
    have k2' : HH s s15 0 1 := k2
    have k3' : s15.1 88 23 = s.1 88 23 + ci 1 := k3
    refine ok_b2 (T_X12_any (HH_PE k2' (by decide) h) (fun s' p' e' => hrec k1 s' p' (e'.trans k3'))) (fun v20 s19 hq => ?_)
    have h7 : PO s15 (v20, s19) := hq
    clear hq
    refine ok_ite (fun _ => ok_some (PO_no (RE_tr k2'.2.1 h7.2.1))) (fun c8' => ?_)
    have q7 := h7.2.2 c8'
    have g19 : HH s s19 (0 + 1) (1 + 0) := HH_tr k2' q7.1
    refine ok_b2 (T_X12_need (PI_P0 g19.2.2.1)) (fun v24 s23 hq => ?_)
    obtain ⟨_, h23, k23⟩ := hq
    have h23' : RE s19 s23 := h23
    refine ok_ite (fun _ => ok_some (PO_no (RE_tr g19.2.1 h23'))) (fun c9 => ?_)
    have n23 : NX s19 s23 := (k23 c9).1
    have g23 := HH_nx0 g19 n23
    refine ok_some ⟨pb1, ?_, fun _ => ⟨HH_weak (HH_23 g23) (by decide), ?_⟩⟩
    · exact RE_tr g23.2.1 (RE_mu (by unfold kE; omega))
    · show (mu s23.1 88 23 (s23.1 88 23 - ci 1)) 88 23 = s.1 88 23
      rw [mu_same, n23.1.2 23 (by decide) (by decide) (by decide) (by decide), q7.2, k3', a1s1]
  · refine ok_b2 (T_X12_sumUp h) (fun v29 s28 hq => ?_)
    have h28 : PO s (v29, s28) := hq
    clear hq
    refine ok_ite (fun _ => ok_some (PO_no h28.2.1)) (fun c => ?_)
    have k28 : LQ s s28 := h28.2.2 c
    refine ok_ite (fun c => one_147 h k28 (tok_ne c (by decide)) (Or.inl rfl)) (fun _ => ?_)
    refine ok_ite (fun c => one_147 h k28 (tok_ne c (by decide)) (Or.inr (Or.inl rfl))) (fun _ => ?_)
    refine ok_ite (fun c => one_147 h k28 (tok_ne c (by decide)) (Or.inr (Or.inr rfl))) (fun _ => ?_)
    unfold F_X12_oneTest_147
    rw [if_pos rfl]
    exact bad_PO k28.1.2.1
theorem TQ_one : ∀ (n : Nat) (s : mG), PE s → 0 ≤ (s.1 88 23).toInt → (s.1 88 23).toInt ≤ 8 → 9 ≤ (s.1 88 23).toInt + n → ok (Q_X12_oneTest n s) (PO s) := by
  intro n
  induction n with
  | zero => intro s _ h0 h1 h2; omega
  | succ n ih =>
    intro s hp h0 h1 h2
    show ok (F_X12_oneTest (Q_X12_oneTest n) s) (PO s)
    refine T_X12_oneTest hp (fun hne s' hp' hd => ?_)
    have e : (s'.1 88 23).toInt = (s.1 88 23).toInt + 1 := by rw [hd]; exact t_up (by omega)
    exact ih s' hp' (by omega) (by omega) (by omega)
end
/-! 59.c.parse3 -/
section
/-! THE REFERENCE READS A TEXT: the lines of a law -/
def LO (s : mG) (i : Nat) : Prop := ∃ a b c : Nat, (c : Int) ≤ (s.1 88 13).toInt ∧ a ≤ b ∧ b ≤ c ∧ s.1 92 (4 * i) = cn a ∧ s.1 92 (4 * i + 1) = cn b ∧ s.1 92 (4 * i + 2) = cn c ∧ Rc (s.1 93) a (b - a) 0 1 ∧ (b = c ∨ Rc (s.1 93) b (c - b) 0 1)
theorem LO_mono {s s' : mG} {i : Nat} (h : LO s i) (hs : (s.1 88 13).toInt ≤ (s'.1 88 13).toInt) (h92 : ∀ k, k < 3 → s'.1 92 (4 * i + k) = s.1 92 (4 * i + k)) (h93 : ∀ j : Nat, (j : Int) < 2 * (s.1 88 13).toInt → s'.1 93 j = s.1 93 j) : LO s' i := by
  obtain ⟨a, b, c, q1, q2, q3, q4, q5, q6, q7, q8⟩ := h
  refine ⟨a, b, c, by omega, q2, q3, (h92 0 (by decide)).trans q4, (h92 1 (by decide)).trans q5, (h92 2 (by decide)).trans q6, Rc_congr _ _ _ _ (fun j _ hj => h93 j (by omega)) q7, ?_⟩
  rcases q8 with e | e
  · exact Or.inl e
  · exact Or.inr (Rc_congr _ _ _ _ (fun j _ hj => h93 j (by omega)) e)
theorem RT_RE {s s' : mG} (h : RE s s') : RT s s' := ⟨fun j h1 h2 => h.1 j h2 (by omega), h.2 3 (by unfold kE; omega), h.2 4 (by unfold kE; omega), h.2 15 (by unfold kE; omega)⟩
theorem PE_88 {s s' : mG} (h : s'.1 88 = s.1 88) (k : PE s) : PE s' := by
  unfold PE PI
  rw [h]; exact k
theorem cn_of {x : Int32} {n : Nat} (h : x.toInt = (n : Int)) (hn : n < 2147483648) : x = cn n := Int32.toInt_inj.mp (by rw [t_cn hn]; exact h)
/-- what a line leaves -/
def AL (s s' : mG) (n : Nat) : Prop := PE s' ∧ s'.1 88 12 = s.1 88 12 ∧ (∀ i, i < n + 1 → LO s' i)
theorem al_123 {s : mG} {n a b c : Nat} (h : PE s) (h12 : (s.1 88 12).toInt = (n : Int)) (hn : n < 16) (h13 : (s.1 88 13).toInt = (c : Int)) (ha : s.1 92 (4 * n) = cn a) (hb : s.1 92 (4 * n + 1) = cn b) (hab : a ≤ b) (hbc : b ≤ c) (r1 : Rc (s.1 93) a (b - a) 0 1) (r2 : b = c ∨ Rc (s.1 93) b (c - b) 0 1) (hl : ∀ i, i < n → LO s i) : ok (F_X12_aLine_123 s) (fun τ => PB τ.1 ∧ RT s τ.2 ∧ (¬ τ.1 = 0 → AL s τ.2 n ∧ (s.1 88 18).toInt ≤ (τ.2.1 88 18).toInt)) := by
  unfold F_X12_aLine_123
  refine ok_nn (ix_ok (r_add (r_mul (by decide : (ci 4).toInt = 4) h12 (by omega) (by omega)) (by decide : (ci 2).toInt = 2) (by omega) (by omega)) (by omega) (by omega)) ?_
  rw [r_nat2 (e := ((ci 4) * (s.1 88 12)) + (ci 2)) (m := 4 * n + 2) (r_add (r_mul (by decide : (ci 4).toInt = 4) h12 (by omega) (by omega)) (by decide : (ci 2).toInt = 2) (by omega) (by omega)) (by omega)]
  extract_lets +onlyGivenNames s34
  have row : ∀ j, j ≠ 92 → s34.1 j = s.1 j := fun j hj => mu_rowP hj
  have cell : ∀ k, k ≠ 4 * n + 2 → s34.1 92 k = s.1 92 k := fun k hk => mu_cellP (Or.inr hk)
  have val : s34.1 92 (4 * n + 2) = s.1 88 13 := mu_sameP
  clear_value s34
  have e88 : s34.1 88 = s.1 88 := row 88 (by decide)
  have e93 : s34.1 93 = s.1 93 := row 93 (by decide)
  have p34 : PE s34 := PE_88 e88 h
  have rt34 : RT s s34 := ⟨fun j h1 _ => row j (by omega), by rw [e88], by rw [e88], by rw [e88]⟩
  refine ok_b2 (T_X12_need (PI_P0 p34.1)) (fun v37 s36 hq => ?_)
  obtain ⟨q1, q2, q3⟩ := hq
  have k1 : PB v37 := q1
  have k2 : RE s34 s36 := q2
  have k3 : ¬ v37 = 0 → NX s34 s36 ∧ s34.1 88 17 = c16 159 := q3
  clear q1 q2 q3
  refine ok_pp (show v37 = 0 ∨ v37 = 1 from k1) (ok_some ⟨k1, RT_tr rt34 (RT_RE k2), fun hv => ?_⟩)
  obtain ⟨nx, _⟩ := k3 hv
  have n13 : s36.1 88 13 = s.1 88 13 := (nx.1.2 13 (by decide) (by decide) (by decide) (by decide)).trans (by rw [e88])
  have n12 : s36.1 88 12 = s.1 88 12 := (nx.1.2 12 (by decide) (by decide) (by decide) (by decide)).trans (by rw [e88])
  have n92 : s36.1 92 = s34.1 92 := nx.1.1 92 (by decide)
  have n93 : s36.1 93 = s.1 93 := (nx.1.1 93 (by decide)).trans e93
  have t1 := nx.2.2
  have t2 := p34.1.2.2.1
  have t3 := p34.2.2
  have e18 : s34.1 88 18 = s.1 88 18 := by rw [e88]
  have e13 : s34.1 88 13 = s.1 88 13 := by rw [e88]
  have w1 : (s.1 88 13).toInt ≤ (s36.1 88 18).toInt := by rw [e13] at t3; omega
  have w0 : 0 ≤ (s.1 88 13).toInt := by omega
  refine ⟨⟨⟨nx.2.1, by rw [n13]; exact w0, by rw [n13]; exact w1⟩, n12, fun i hi => ?_⟩, by rw [← e18]; show (s34.1 88 18).toInt ≤ (s36.1 88 18).toInt; omega⟩
  by_cases e : i = n
  · subst e
    refine ⟨a, b, c, by rw [n13]; omega, hab, hbc, ?_, ?_, ?_, by rw [n93]; exact r1, by rw [n93]; exact r2⟩
    · rw [n92, cell _ (by omega)]; exact ha
    · rw [n92, cell _ (by omega)]; exact hb
    · rw [n92, val]; exact cn_of h13 (by have := h.2.2; have := h.1.1; have := h.1.2.2.1; have := h.1.2.2.2.1; omega)
  · exact LO_mono (hl i (by omega)) (by rw [n13]; omega) (fun k hk => by rw [n92, cell _ (by omega)]) (fun j _ => by rw [n93])
theorem T_X12_aLine {s : mG} {n : Nat} (h : PE s) (h12 : (s.1 88 12).toInt = (n : Int)) (hn : n ≤ 16) (hl : ∀ i, i < n → LO s i) : ok (F_X12_aLine s) (fun τ => PB τ.1 ∧ RT s τ.2 ∧ (¬ τ.1 = 0 → n < 16 ∧ AL s τ.2 n ∧ (s.1 88 18).toInt < (τ.2.1 88 18).toInt)) := by
  have bad : ∀ x, ok (b2 (F_X12_bad x s) fun v s' => if v = 0 ∨ v = 1 then some (v, s') else none) (fun τ => PB τ.1 ∧ RT s τ.2 ∧ (¬ τ.1 = 0 → n < 16 ∧ AL s τ.2 n ∧ (s.1 88 18).toInt < (τ.2.1 88 18).toInt)) := by
    intro x
    refine ok_b2 T_X12_bad (fun v s' hq => ?_)
    have hv : v = ci 0 := hq.1
    have hr : RE s s' := hq.2
    subst hv
    rw [if_pos (show ci 0 = 0 ∨ ci 0 = 1 from pb0)]
    exact ok_some ⟨pb0, RT_RE hr, fun q => absurd z0 q⟩
  unfold F_X12_aLine
  rw [F_isIn, b1_some]
  refine ok_ite (fun _ => bad _) (fun cw => ?_)
  have w := isin_f (a := s.1 88 17) (by decide : (c8 20).toInt = 20) (by decide : (c8 25).toInt = 25) (wi_f cw)
  have ht : s.1 88 17 ≠ 0 := fun q => by rw [q, t_zero] at w; omega
  refine ok_ite (fun _ => bad _) (fun c16' => ?_)
  have c16'' := r_ne h12 (by decide : (c8 16).toInt = 16) c16'
  have hn : n < 16 := by omega
  have st0 := h.2.1
  have st1 := h.2.2
  have pa := h.1.2.2.2.2 ht
  have pb := h.1.1
  have pc := h.1.2.2.2.1
  extract_lets +onlyGivenNames s13
  have r13 : ∀ j, j ≠ 88 → s13.1 j = s.1 j := fun j hj => mu_rowP hj
  have c13 : ∀ k, k ≠ 23 → s13.1 88 k = s.1 88 k := fun k hk => mu_cellP (Or.inr hk)
  have d13 : s13.1 88 23 = ci 0 := mu_sameP
  clear_value s13
  rw [c13 12 (by decide)]
  refine ok_nn (ix_ok (r_add (r_mul (by decide : (ci 4).toInt = 4) h12 (by omega) (by omega)) (by decide : (ci 3).toInt = 3) (by omega) (by omega)) (by omega) (by omega)) ?_
  rw [r_nat2 (e := ((ci 4) * (s.1 88 12)) + (ci 3)) (m := 4 * n + 3) (r_add (r_mul (by decide : (ci 4).toInt = 4) h12 (by omega) (by omega)) (by decide : (ci 3).toInt = 3) (by omega) (by omega)) (by omega)]
  extract_lets +onlyGivenNames s15
  have r15 : ∀ j, j ≠ 92 → s15.1 j = s13.1 j := fun j hj => mu_rowP hj
  have c15 : ∀ k, k ≠ 4 * n + 3 → s15.1 92 k = s13.1 92 k := fun k hk => mu_cellP (Or.inr hk)
  clear_value s15
  have e15 : ∀ k, k ≠ 23 → s15.1 88 k = s.1 88 k := fun k hk => (congrFun (r15 88 (by decide)) k).trans (c13 k hk)
  have P15 : P0 s15 := by unfold P0; rw [e15 15 (by decide), e15 16 (by decide)]; exact ⟨h.1.1, by omega, h.1.2.2.2.1⟩
  refine ok_b1 (T_X12_next0 P15) (fun s17 n17 => ?_)
  have f17 : ∀ k, k ≠ 16 → k ≠ 17 → k ≠ 18 → k ≠ 19 → k ≠ 23 → s17.1 88 k = s.1 88 k := fun k a1 a2 a3 a4 a5 => (n17.1.2 k a1 a2 a3 a4).trans (e15 k a5)
  have d17 : s17.1 88 23 = ci 0 := (n17.1.2 23 (by decide) (by decide) (by decide) (by decide)).trans ((congrFun (r15 88 (by decide)) 23).trans d13)
  have t17 : (s.1 88 18).toInt < (s17.1 88 18).toInt := by
    have a1 := n17.2.2
    rw [e15 16 (by decide)] at a1
    omega
  have r17 : ∀ j, j ≠ 88 → j ≠ 92 → s17.1 j = s.1 j := fun j h1 h2 => (n17.1.1 j h1).trans ((r15 j h2).trans (r13 j h1))
  have c17 : ∀ k, k ≠ 4 * n + 3 → s17.1 92 k = s.1 92 k := fun k hk => (congrFun (n17.1.1 92 (by decide)) k).trans ((c15 k hk).trans (congrFun (r13 92 (by decide)) k))
  rw [f17 12 (by decide) (by decide) (by decide) (by decide) (by decide), f17 13 (by decide) (by decide) (by decide) (by decide) (by decide)]
  refine ok_nn (ix_ok (r_mul (by decide : (ci 4).toInt = 4) h12 (by omega) (by omega)) (by omega) (by omega)) ?_
  rw [r_nat2 (e := (ci 4) * (s.1 88 12)) (m := 4 * n) (r_mul (by decide : (ci 4).toInt = 4) h12 (by omega) (by omega)) (by omega)]
  extract_lets +onlyGivenNames s19
  have r19 : ∀ j, j ≠ 92 → s19.1 j = s17.1 j := fun j hj => mu_rowP hj
  have c19 : ∀ k, k ≠ 4 * n → s19.1 92 k = s17.1 92 k := fun k hk => mu_cellP (Or.inr hk)
  have v19 : s19.1 92 (4 * n) = s.1 88 13 := mu_sameP
  clear_value s19
  have e19 : s19.1 88 = s17.1 88 := r19 88 (by decide)
  have p17 : PE s17 := ⟨n17.2.1, by rw [f17 13 (by decide) (by decide) (by decide) (by decide) (by decide)]; exact st0, by rw [f17 13 (by decide) (by decide) (by decide) (by decide) (by decide)]; omega⟩
  have p19 : PE s19 := PE_88 e19 p17
  have s13' : s19.1 88 13 = s.1 88 13 := by rw [e19]; exact f17 13 (by decide) (by decide) (by decide) (by decide) (by decide)
  have s12' : s19.1 88 12 = s.1 88 12 := by rw [e19]; exact f17 12 (by decide) (by decide) (by decide) (by decide) (by decide)
  have s23' : s19.1 88 23 = ci 0 := by rw [e19]; exact d17
  have s18' : (s.1 88 18).toInt < (s19.1 88 18).toInt := by rw [e19]; exact t17
  have R19 : ∀ j, j ≠ 88 → j ≠ 92 → s19.1 j = s.1 j := fun j h1 h2 => (r19 j h2).trans (r17 j h1 h2)
  have rt19 : RT s s19 := ⟨fun j h1 h2 => R19 j h2 (by omega), by rw [e19]; exact f17 3 (by decide) (by decide) (by decide) (by decide) (by decide), by rw [e19]; exact f17 4 (by decide) (by decide) (by decide) (by decide) (by decide), by rw [e19]; exact f17 15 (by decide) (by decide) (by decide) (by decide) (by decide)⟩
  have C19 : ∀ k, k < 4 * n → s19.1 92 k = s.1 92 k := fun k hk => (c19 k (by omega)).trans (c17 k (by omega))
  refine ok_b2 (T_X12_sumUp p19) (fun v22 s21 hq => ?_)
  have h21 : PO s19 (v22, s21) := hq
  clear hq
  have R21 : RE s19 s21 := h21.2.1
  refine ok_ite (fun _ => ok_some ⟨pb0, RT_tr rt19 (RT_RE R21), fun q => absurd z0 q⟩) (fun c22 => ?_)
  obtain ⟨g21, dd21⟩ := h21.2.2 c22
  have g21 : HH s19 s21 1 0 := g21
  have d21 : s21.1 88 23 = ci 0 := dd21.trans s23'
  clear dd21
  have e12 : s21.1 88 12 = s.1 88 12 := (R21.2 12 (by unfold kE; omega)).trans s12'
  have p21 : PE s21 := HH_PE g21 (by decide) p19
  obtain ⟨z1, z2, z3, z4, z5, z6, z7, z8⟩ := g21
  rw [s13'] at z1 z4 z5 z7 z8
  obtain ⟨a, ea⟩ : ∃ a : Nat, (s.1 88 13).toInt = (a : Int) := ⟨(s.1 88 13).toInt.toNat, by omega⟩
  obtain ⟨b, eb⟩ : ∃ b : Nat, (s21.1 88 13).toInt = (b : Int) := ⟨(s21.1 88 13).toInt.toNat, by omega⟩
  have hab : a ≤ b := by omega
  have ba : a < 1000 := by omega
  have bb : b < 1000 := by have := p21.2.2; have := p21.1.1; have := p21.1.2.2.1; have := p21.1.2.2.2.1; omega
  have rr1 : Rc (s21.1 93) a (b - a) 0 1 := by
    have := z8 0
    rw [ea, eb, show ((a : Int)).toNat = a from rfl, show ((b : Int) - (a : Int)).toNat = b - a by omega] at this
    exact this
  rw [e12]
  refine ok_nn (ix_ok (r_add (r_mul (by decide : (ci 4).toInt = 4) h12 (by omega) (by omega)) (by decide : (ci 1).toInt = 1) (by omega) (by omega)) (by omega) (by omega)) ?_
  rw [r_nat2 (e := ((ci 4) * (s.1 88 12)) + (ci 1)) (m := 4 * n + 1) (r_add (r_mul (by decide : (ci 4).toInt = 4) h12 (by omega) (by omega)) (by decide : (ci 1).toInt = 1) (by omega) (by omega)) (by omega)]
  extract_lets +onlyGivenNames s25
  have r25 : ∀ j, j ≠ 92 → s25.1 j = s21.1 j := fun j hj => mu_rowP hj
  have c25 : ∀ k, k ≠ 4 * n + 1 → s25.1 92 k = s21.1 92 k := fun k hk => mu_cellP (Or.inr hk)
  have v25 : s25.1 92 (4 * n + 1) = s21.1 88 13 := mu_sameP
  clear_value s25
  have e25 : s25.1 88 = s21.1 88 := r25 88 (by decide)
  have p25 : PE s25 := PE_88 e25 p21
  have f92 : s21.1 92 = s19.1 92 := R21.1 92 (by decide) (by decide)
  have ha25 : s25.1 92 (4 * n) = cn a := by
    rw [c25 _ (by omega), f92, v19]; exact cn_of ea (by omega)
  have hb25 : s25.1 92 (4 * n + 1) = cn b := by rw [v25]; exact cn_of eb (by omega)
  have rt25 : RT s s25 := RT_tr rt19 (RT_tr (RT_RE R21) ⟨fun j h1 h2 => r25 j (by omega), by rw [e25], by rw [e25], by rw [e25]⟩)
  have l25 : ∀ i, i < n → LO s25 i := fun i hi => LO_mono (hl i hi) (by rw [e25]; omega) (fun k hk => by rw [c25 _ (by omega), f92, C19 _ (by omega)]) (fun j hj => by rw [r25 93 (by decide), z7 j hj, R19 93 (by decide) (by decide)])
  have t25 : (s.1 88 18).toInt < (s25.1 88 18).toInt := by rw [e25]; omega
  have e25_12 : (s25.1 88 12).toInt = (n : Int) := by rw [e25, e12]; exact h12
  have e25_93 : s25.1 93 = s21.1 93 := r25 93 (by decide)
  refine ok_ite (fun c3 => ?_) (fun _ => ?_)
  · have ht25 := tok_ne c3 (by decide)
    refine ok_b1 (T_X12_next0 (PI_P0 p25.1)) (fun s28 n28 => ?_)
    have x13 : s28.1 88 13 = s25.1 88 13 := n28.1.2 13 (by decide) (by decide) (by decide) (by decide)
    have x23 : s28.1 88 23 = ci 0 := (n28.1.2 23 (by decide) (by decide) (by decide) (by decide)).trans (by rw [e25]; exact d21)
    have y1 := n28.2.2
    have y2 := p25.1.2.2.1
    have y3 := p25.2.2
    have p28 : PE s28 := ⟨n28.2.1, by rw [x13]; exact p25.2.1, by rw [x13]; omega⟩
    have z23 : (s28.1 88 23).toInt = 0 := by rw [x23]; decide
    refine ok_b2 (T_X12_any p28 (fun s' p' e' => ?_)) (fun v31 s30 hq => ?_)
    · have e0 : (s'.1 88 23).toInt = 0 := by rw [e']; exact z23
      exact TQ_one 9 s' p' (by omega) (by omega) (by omega)
    · have h30 : PO s28 (v31, s30) := hq
      clear hq
      have R30 : RE s28 s30 := h30.2.1
      have rt30 : RT s s30 := RT_tr rt25 (RT_tr (RT_RE (RE_RN n28.1)) (RT_RE R30))
      refine ok_ite (fun _ => ok_some ⟨pb0, rt30, fun q => absurd z0 q⟩) (fun c31 => ?_)
      obtain ⟨g30, _⟩ := h30.2.2 c31
      have g30 : HH s28 s30 1 0 := g30
      have p30 : PE s30 := HH_PE g30 (by decide) p28
      obtain ⟨w1, w2, w3, w4, w5, w6, w7, w8⟩ := g30
      have x13' : (s28.1 88 13).toInt = (b : Int) := by rw [x13, e25]; exact eb
      rw [x13'] at w1 w4 w5 w7 w8
      obtain ⟨c, ec⟩ : ∃ c : Nat, (s30.1 88 13).toInt = (c : Int) := ⟨(s30.1 88 13).toInt.toNat, by omega⟩
      have g92 : s30.1 92 = s25.1 92 := (R30.1 92 (by decide) (by decide)).trans (n28.1.1 92 (by decide))
      have g93 : ∀ j : Nat, (j : Int) < 2 * (b : Int) → s30.1 93 j = s25.1 93 j := fun j hj => (w7 j hj).trans (congrFun (n28.1.1 93 (by decide)) j)
      have g12 : s30.1 88 12 = s25.1 88 12 := (R30.2 12 (by unfold kE; omega)).trans (n28.1.2 12 (by decide) (by decide) (by decide) (by decide))
      have rr2 : Rc (s30.1 93) b (c - b) 0 1 := by
        have := w8 0
        rw [ec, show ((b : Int)).toNat = b from rfl, show ((c : Int) - (b : Int)).toNat = c - b by omega] at this
        exact this
      refine ok_mono (al_123 (n := n) (a := a) (b := b) (c := c) p30 (by rw [g12]; exact e25_12) hn ec (by rw [g92]; exact ha25) (by rw [g92]; exact hb25) hab (by omega) (Rc_congr _ _ _ _ (fun j _ hj => by rw [g93 j (by omega), e25_93]) rr1) (Or.inr rr2) (fun i hi => LO_mono (l25 i hi) (by rw [e25, ec, eb]; omega) (fun k _ => by rw [g92]) (fun j hj => g93 j (by rw [e25, eb] at hj; omega)))) (fun τ q => ?_)
      obtain ⟨q1, q2, q3⟩ := q
      refine ⟨q1, RT_tr rt30 q2, fun hv => ?_⟩
      obtain ⟨⟨u1, u2, u3⟩, u4⟩ := q3 hv
      exact ⟨hn, ⟨u1, u2.trans (g12.trans (by rw [e25]; exact e12)), u3⟩, by omega⟩
  · refine ok_mono (al_123 (n := n) (a := a) (b := b) (c := b) p25 e25_12 hn (by rw [e25]; exact eb) ha25 hb25 hab (Nat.le_refl _) (by rw [e25_93]; exact rr1) (Or.inl rfl) l25) (fun τ q => ?_)
    obtain ⟨q1, q2, q3⟩ := q
    refine ⟨q1, RT_tr rt25 q2, fun hv => ?_⟩
    obtain ⟨⟨u1, u2, u3⟩, u4⟩ := q3 hv
    exact ⟨hn, ⟨u1, u2.trans (by rw [e25]; exact e12), u3⟩, by omega⟩
/-- a law, read so far -/
def LSx (s : mG) : Prop := PE s ∧ 0 ≤ (s.1 88 12).toInt ∧ (s.1 88 12).toInt ≤ 16 ∧ ∀ i : Nat, (i : Int) < (s.1 88 12).toInt → LO s i
def mGd (x : Int32) (s : mG) : Nat := if x = 0 then 0 else mUp (s.1 88 18) + 1
theorem T_X12_readsLaw {s : mG} (h : PI s) : ok (F_X12_readsLaw s) (fun τ => PB τ.1 ∧ RT s τ.2 ∧ (¬ τ.1 = 0 → LSx τ.2)) := by
  unfold F_X12_readsLaw
  extract_lets +onlyGivenNames s1
  have r1 : RT s s1 := RT_mu (by omega)
  have c1 : ∀ k, k ≠ 12 → s1.1 88 k = s.1 88 k := fun k hk => mu_cellP (Or.inr hk)
  have v1 : s1.1 88 12 = ci 0 := mu_sameP
  clear_value s1
  extract_lets +onlyGivenNames s2
  have r2 : RT s s2 := RT_mu1 r1 (by omega)
  have c2 : ∀ k, k ≠ 13 → s2.1 88 k = s1.1 88 k := fun k hk => mu_cellP (Or.inr hk)
  have v2 : s2.1 88 13 = ci 0 := mu_sameP
  clear_value s2
  have z : (ci 0).toInt = 0 := by decide
  have e12 : s2.1 88 12 = ci 0 := (c2 12 (by decide)).trans v1
  have e : ∀ k, k ≠ 12 → k ≠ 13 → s2.1 88 k = s.1 88 k := fun k h1 h2 => (c2 k h2).trans (c1 k h1)
  have p2 : PI s2 := by
    unfold PI
    rw [e 15 (by decide) (by decide), e 16 (by decide) (by decide), e 17 (by decide) (by decide), e 18 (by decide) (by decide)]
    exact h
  have L2 : LSx s2 := ⟨⟨p2, by rw [v2, z]; omega, by rw [v2, z]; exact p2.2.1⟩, by rw [e12, z]; omega, by rw [e12, z]; omega, fun i hi => by rw [e12, z] at hi; omega⟩
  unfold F_X12_readsLaw_L12
  refine ok_whl (fun v => PB v.1 ∧ RT s v.2 ∧ (¬ v.1 = 0 → LSx v.2)) (fun v => mGd v.1 v.2) ⟨pb1, r2, fun _ => L2⟩ (fun v hv => ?_)
  obtain ⟨x1, s3⟩ := v
  obtain ⟨q1, q2, q3⟩ := hv
  have k1 : PB x1 := q1
  have k2 : RT s s3 := q2
  have k3 : ¬ x1 = 0 → LSx s3 := q3
  clear q1 q2 q3
  show ok (F_X12_readsLaw_B12 x1 s3) _
  unfold F_X12_readsLaw_B12 F_X12_readsLaw_49
  have fin : ok (b1 (if x1 = 0 ∨ x1 = 1 then some (x1, s3) else none) fun τ => some (Sum.inr τ)) (lpost (fun (v : Int32 × mG) => PB v.1 ∧ RT s v.2 ∧ (¬ v.1 = 0 → LSx v.2)) (fun v => mGd v.1 v.2) (mGd x1 s3) (fun τ => PB τ.1 ∧ RT s τ.2 ∧ (¬ τ.1 = 0 → LSx τ.2))) := by
    rw [if_pos (show x1 = 0 ∨ x1 = 1 from k1)]
    exact ok_some (lp_inr ⟨k1, k2, k3⟩)
  refine ok_ite (fun _ => fin) (fun c0 => ?_)
  refine ok_ite (fun _ => fin) (fun c17 => ?_)
  obtain ⟨w1, w2, w3, w4⟩ := k3 c0
  obtain ⟨n, en⟩ : ∃ n : Nat, (s3.1 88 12).toInt = (n : Int) := ⟨(s3.1 88 12).toInt.toNat, by omega⟩
  refine ok_b2 (T_X12_aLine (n := n) w1 en (by omega) (fun i hi => w4 i (by omega))) (fun v8 s7 hq => ?_)
  obtain ⟨q1, q2, q3⟩ := hq
  have j1 : PB v8 := q1
  have j2 : RT s3 s7 := q2
  have j3 : ¬ v8 = 0 → n < 16 ∧ AL s3 s7 n ∧ (s3.1 88 18).toInt < (s7.1 88 18).toInt := q3
  clear q1 q2 q3
  unfold F_X12_readsLaw_42
  have m0 : mGd x1 s3 = mUp (s3.1 88 18) + 1 := if_neg c0
  refine ok_ite (fun cv => ?_) (fun cv => ?_)
  · refine ok_some (lp_inl ⟨j1, RT_tr k2 (RT_tr j2 (RT_mu (by omega))), fun q => absurd cv q⟩ ?_)
    show mGd v8 _ < mGd x1 s3
    rw [m0, show mGd v8 (mu s7.1 88 12 (s7.1 88 12 + ci 0), s7.2) = 0 from if_pos cv]
    omega
  · obtain ⟨u1, ⟨u2, u3, u4⟩, u5⟩ := j3 cv
    extract_lets +onlyGivenNames s10
    have rt : RT s7 s10 := RT_mu (by omega)
    have cc : ∀ k, k ≠ 12 → s10.1 88 k = s7.1 88 k := fun k hk => mu_cellP (Or.inr hk)
    have rr : ∀ j, j ≠ 88 → s10.1 j = s7.1 j := fun j hj => mu_rowP hj
    have vv : s10.1 88 12 = s7.1 88 12 + ci 1 := mu_sameP
    clear_value s10
    have t12 : (s10.1 88 12).toInt = (n : Int) + 1 := by rw [vv, u3, t_up (by omega), en]
    have w2 : 0 ≤ (s10.1 88 12).toInt ∧ (s10.1 88 12).toInt ≤ 16 := by omega
    refine ok_some (lp_inl ⟨j1, RT_tr k2 (RT_tr j2 rt), fun _ => ⟨?_, w2.1, w2.2, fun i hi => ?_⟩⟩ ?_)
    · show PE s10
      unfold PE PI
      rw [cc 13 (by decide), cc 15 (by decide), cc 16 (by decide), cc 17 (by decide), cc 18 (by decide)]
      exact u2
    · replace hi : (i : Int) < (s10.1 88 12).toInt := hi
      exact LO_mono (u4 i (by omega)) (by rw [cc 13 (by decide)]; omega) (fun k _ => by rw [rr 92 (by decide)]) (fun j _ => by rw [rr 93 (by decide)])
    · show mGd v8 s10 < mGd x1 s3
      rw [m0, show mGd v8 s10 = mUp (s10.1 88 18) + 1 from if_neg cv, cc 18 (by decide)]
      have b1 := u2.1.2.2.1
      have b2 := u2.1.2.2.2.1
      have b3 := u2.1.1
      unfold mUp
      omega
end
/-! 59.d.parse4 -/
section
/-! THE REFERENCE READS A TEXT: signs and shifts -/
def RR (s s' : mG) : Prop := (∀ j, j ≠ 88 → j ≠ 94 → s'.1 j = s.1 j) ∧ (∀ k, (k < 13 ∨ k = 15) → s'.1 88 k = s.1 88 k)
theorem RR_refl {s : mG} : RR s s := ⟨fun _ _ _ => rfl, fun _ _ => rfl⟩
theorem RR_tr {s s' s2 : mG} (h : RR s s') (k : RR s' s2) : RR s s2 := ⟨fun j h1 h2 => (k.1 j h1 h2).trans (h.1 j h1 h2), fun i h1 => (k.2 i h1).trans (h.2 i h1)⟩
theorem RR_RN {s s' : mG} (h : RN s s') : RR s s' := ⟨fun j h1 _ => h.1 j h1, fun k hk => h.2 k (by omega) (by omega) (by omega) (by omega)⟩
theorem RR_mu {s : mG} {k : Nat} {v : Int32} (hk : ¬ (k < 13 ∨ k = 15)) : RR s (mu s.1 88 k v, s.2) := ⟨fun j h1 _ => mu_rowP h1, fun i hi => mu_cellP (Or.inr fun e => hk (e ▸ hi))⟩
theorem RR_94 {s : mG} {k : Nat} {v : Int32} : RR s (mu s.1 94 k v, s.2) := ⟨fun j _ h2 => mu_rowP h2, fun i _ => mu_cellP (by omega)⟩
theorem RT_RR {s s' : mG} (h : RR s s') : RT s s' := ⟨fun j h1 h2 => h.1 j h2 (by omega), h.2 3 (by omega), h.2 4 (by omega), h.2 15 (by omega)⟩
/-- nothing was read -/
def RB (s s' : mG) : Prop := RR s s' ∧ s'.1 94 = s.1 94 ∧ s'.1 88 14 = s.1 88 14
theorem T_X12_badR {a1 : Int32} {s : mG} : ok (F_X12_bad a1 s) (fun τ => τ.1 = ci 0 ∧ RB s τ.2) := by
  unfold F_X12_bad
  exact ok_some ⟨rfl, RR_tr (RR_mu (by omega)) (RR_mu (by omega)), rfl, rfl⟩
theorem RB_RN {s s' : mG} (h : RN s s') : RB s s' := ⟨RR_RN h, h.1 94 (by decide), h.2 14 (by decide) (by decide) (by decide) (by decide)⟩
theorem T_X12_needR {a1 : Int32} {s : mG} (h : PI s) (ha : ¬ a1 = 0) : ok (F_X12_need a1 s) (fun τ => PB τ.1 ∧ RB s τ.2 ∧ (¬ τ.1 = 0 → PI τ.2 ∧ (s.1 88 18).toInt < (τ.2.1 88 18).toInt)) := by
  unfold F_X12_need
  refine ok_ite (fun c => ?_) (fun _ => ?_)
  · refine ok_b1 (T_X12_next0 (PI_P0 h)) (fun s3 h3 => ?_)
    have a1' := h3.2.2
    have a2 := h.2.2.2.2 (tok_ne c ha)
    exact ok_some ⟨pb1, RB_RN h3.1, fun _ => ⟨h3.2.1, show (s.1 88 18).toInt < (s3.1 88 18).toInt by omega⟩⟩
  · refine ok_b2 T_X12_badR (fun v s' hq => ?_)
    have hv : v = ci 0 := hq.1
    have hr : RB s s' := hq.2
    subst hv
    rw [if_pos (show ci 0 = 0 ∨ ci 0 = 1 from pb0)]
    exact ok_some ⟨pb0, hr, fun q => absurd z0 q⟩
theorem T_X12_number {a1 a2 : Int32} {s : mG} (h : PI s) : ok (F_X12_number a1 a2 s) (fun τ => PB τ.1 ∧ RB s τ.2 ∧ (¬ τ.1 = 0 → PI τ.2 ∧ (a1.toInt ≤ (τ.2.1 88 25).toInt ∧ (τ.2.1 88 25).toInt ≤ a2.toInt) ∧ (s.1 88 18).toInt ≤ (τ.2.1 88 18).toInt)) := by
  have bad : ∀ x, ok (b2 (F_X12_bad x s) fun v s' => if v = 0 ∨ v = 1 then some (v, s') else none) (fun τ => PB τ.1 ∧ RB s τ.2 ∧ (¬ τ.1 = 0 → PI τ.2 ∧ (a1.toInt ≤ (τ.2.1 88 25).toInt ∧ (τ.2.1 88 25).toInt ≤ a2.toInt) ∧ (s.1 88 18).toInt ≤ (τ.2.1 88 18).toInt)) := by
    intro x
    refine ok_b2 T_X12_badR (fun v s' hq => ?_)
    have hv : v = ci 0 := hq.1
    have hr : RB s s' := hq.2
    subst hv
    rw [if_pos (show ci 0 = 0 ∨ ci 0 = 1 from pb0)]
    exact ok_some ⟨pb0, hr, fun q => absurd z0 q⟩
  unfold F_X12_number
  refine ok_ite (fun _ => ?_) (fun _ => bad _)
  rw [F_isIn, b1_some]
  refine ok_ite (fun _ => bad _) (fun c => ?_)
  have w := wi_f c
  extract_lets +onlyGivenNames s9
  have r9 : ∀ j, j ≠ 88 → s9.1 j = s.1 j := fun j hj => mu_rowP hj
  have c9 : ∀ k, k ≠ 25 → s9.1 88 k = s.1 88 k := fun k hk => mu_cellP (Or.inr hk)
  have v9 : s9.1 88 25 = s.1 88 19 := mu_sameP
  clear_value s9
  have p9 : PI s9 := by
    unfold PI
    rw [c9 15 (by decide), c9 16 (by decide), c9 17 (by decide), c9 18 (by decide)]
    exact h
  refine ok_b1 (T_X12_next0 (PI_P0 p9)) (fun s11 h11 => ?_)
  have b9 : RB s s9 := ⟨⟨fun j h1 _ => r9 j h1, fun k hk => c9 k (by omega)⟩, r9 94 (by decide), c9 14 (by decide)⟩
  have b11 := RB_RN h11.1
  have e25 : s11.1 88 25 = s.1 88 19 := (h11.1.2 25 (by decide) (by decide) (by decide) (by decide)).trans v9
  have t1 := h11.2.2
  have t2 := p9.2.2.1
  rw [c9 18 (by decide)] at t2
  refine ok_some ⟨pb1, ⟨RR_tr b9.1 b11.1, b11.2.1.trans b9.2.1, b11.2.2.trans b9.2.2⟩, fun _ => ⟨h11.2.1, by rw [e25]; exact w, show (s.1 88 18).toInt ≤ (s11.1 88 18).toInt by omega⟩⟩
/-- one cell of the row was told -/
def RD (s s' : mG) (n : Nat) : Prop := RR s s' ∧ (∀ j, j ≠ n → s'.1 94 j = s.1 94 j) ∧ s'.1 88 14 = s.1 88 14
theorem RD_RB {s s' : mG} {n : Nat} (h : RB s s') : RD s s' n := ⟨h.1, fun j _ => congrFun h.2.1 j, h.2.2⟩
theorem T_X12_told {a1 a2 a3 a4 : Int32} {s : mG} {n : Nat} (h : PI s) (hn : a1.toInt = (n : Int)) (hn48 : n < 48) (ha : ¬ a2 = 0) : ok (F_X12_told a1 a2 a3 a4 s) (fun τ => PB τ.1 ∧ RD s τ.2 n ∧ (¬ τ.1 = 0 → PI τ.2 ∧ (a3.toInt ≤ (τ.2.1 94 n).toInt ∧ (τ.2.1 94 n).toInt ≤ a4.toInt) ∧ (s.1 88 18).toInt < (τ.2.1 88 18).toInt)) := by
  unfold F_X12_told F_X12_told_18
  refine ok_b2 (T_X12_needR h ha) (fun v3 s2 hq => ?_)
  obtain ⟨_, q2, q3⟩ := hq
  have k2 : RB s s2 := q2
  have k3 : ¬ v3 = 0 → PI s2 ∧ (s.1 88 18).toInt < (s2.1 88 18).toInt := q3
  clear q2 q3
  refine ok_ite (fun _ => ok_some ⟨pb0, RD_RB k2, fun q => absurd z0 q⟩) (fun c => ?_)
  obtain ⟨p2, t2⟩ := k3 c
  refine ok_b2 (T_X12_number p2) (fun v7 s6 hq => ?_)
  obtain ⟨_, q2, q3⟩ := hq
  have m2 : RB s2 s6 := q2
  have m3 : ¬ v7 = 0 → PI s6 ∧ (a3.toInt ≤ (s6.1 88 25).toInt ∧ (s6.1 88 25).toInt ≤ a4.toInt) ∧ (s2.1 88 18).toInt ≤ (s6.1 88 18).toInt := q3
  clear q2 q3
  have b6 : RB s s6 := ⟨RR_tr k2.1 m2.1, m2.2.1.trans k2.2.1, m2.2.2.trans k2.2.2⟩
  refine ok_ite (fun _ => ok_some ⟨pb0, RD_RB b6, fun q => absurd z0 q⟩) (fun c => ?_)
  obtain ⟨p6, w6, t6⟩ := m3 c
  refine ok_nn (ix_ok hn (by omega) (by omega)) ?_
  rw [r_nat hn]
  extract_lets +onlyGivenNames s10
  have r10 : RR s6 s10 := RR_94
  have c10 : ∀ j, j ≠ n → s10.1 94 j = s6.1 94 j := fun j hj => mu_cellP (Or.inr hj)
  have v10 : s10.1 94 n = s6.1 88 25 := mu_sameP
  have e88 : s10.1 88 = s6.1 88 := mu_rowP (by decide)
  clear_value s10
  refine ok_some ⟨pb1, ⟨RR_tr b6.1 r10, fun j hj => (c10 j hj).trans (congrFun b6.2.1 j), by rw [show (ci 1, s10).2 = s10 from rfl, e88]; exact b6.2.2⟩, fun _ => ⟨?_, ?_, ?_⟩⟩
  · show PI s10
    unfold PI; rw [e88]; exact p6
  · show a3.toInt ≤ (s10.1 94 n).toInt ∧ (s10.1 94 n).toInt ≤ a4.toInt
    rw [v10]; exact w6
  · show (s.1 88 18).toInt < (s10.1 88 18).toInt
    rw [e88]; omega
theorem T_X12_aSign {s : mG} {r : Nat} (h : PI s) (hr : (s.1 88 14).toInt = (r : Int)) (hr6 : r < 6) : ok (F_X12_aSign s) (fun τ => PB τ.1 ∧ RR s τ.2 ∧ τ.2.1 88 14 = s.1 88 14 ∧ (∀ j, j < 2 * r → τ.2.1 94 j = s.1 94 j) ∧ (¬ τ.1 = 0 → PI τ.2 ∧ (∀ j, 2 * r ≤ j → j < 2 * r + 2 → 1 ≤ (τ.2.1 94 j).toInt ∧ (τ.2.1 94 j).toInt ≤ 999) ∧ (s.1 88 18).toInt < (τ.2.1 88 18).toInt)) := by
  unfold F_X12_aSign F_X12_aSign_63
  refine ok_b2 (T_X12_needR h (by decide)) (fun v3 s2 hq => ?_)
  obtain ⟨_, q2, q3⟩ := hq
  have k2 : RB s s2 := q2
  have k3 : ¬ v3 = 0 → PI s2 ∧ (s.1 88 18).toInt < (s2.1 88 18).toInt := q3
  clear q2 q3
  refine ok_ite (fun _ => ok_some ⟨pb0, k2.1, k2.2.2, fun j _ => congrFun k2.2.1 j, fun q => absurd z0 q⟩) (fun c => ?_)
  obtain ⟨p2, t2⟩ := k3 c
  have e2 : (s2.1 88 14).toInt = (r : Int) := by rw [k2.2.2]; exact hr
  refine ok_b2 (T_X12_told (n := 2 * r) p2 ((r_mul (by decide : (ci 2).toInt = 2) e2 (by omega) (by omega)).trans (by omega)) (by omega) (by decide)) (fun v7 s6 hq => ?_)
  obtain ⟨_, q2, q3⟩ := hq
  have m2 : RD s2 s6 (2 * r) := q2
  have m3 : ¬ v7 = 0 → PI s6 ∧ ((ci 1).toInt ≤ (s6.1 94 (2 * r)).toInt ∧ (s6.1 94 (2 * r)).toInt ≤ (c16 999).toInt) ∧ (s2.1 88 18).toInt < (s6.1 88 18).toInt := q3
  clear q2 q3
  have R6 : RR s s6 := RR_tr k2.1 m2.1
  have E6 : s6.1 88 14 = s.1 88 14 := m2.2.2.trans k2.2.2
  have K6 : ∀ j, j < 2 * r → s6.1 94 j = s.1 94 j := fun j hj => (m2.2.1 j (by omega)).trans (congrFun k2.2.1 j)
  refine ok_ite (fun _ => ok_some ⟨pb0, R6, E6, K6, fun q => absurd z0 q⟩) (fun c => ?_)
  obtain ⟨p6, w6, t6⟩ := m3 c
  rw [(by decide : (ci 1).toInt = 1), (by decide : (c16 999).toInt = 999)] at w6
  have e6 : (s6.1 88 14).toInt = (r : Int) := by rw [E6]; exact hr
  refine ok_b2 (T_X12_told (n := 2 * r + 1) p6 ((r_add (r_mul (by decide : (ci 2).toInt = 2) e6 (by omega) (by omega)) (by decide : (ci 1).toInt = 1) (by omega) (by omega)).trans (by omega)) (by omega) (by decide)) (fun v11 s10 hq => ?_)
  obtain ⟨_, q2, q3⟩ := hq
  have n2 : RD s6 s10 (2 * r + 1) := q2
  have n3 : ¬ v11 = 0 → PI s10 ∧ ((ci 1).toInt ≤ (s10.1 94 (2 * r + 1)).toInt ∧ (s10.1 94 (2 * r + 1)).toInt ≤ (c16 999).toInt) ∧ (s6.1 88 18).toInt < (s10.1 88 18).toInt := q3
  clear q2 q3
  have R10 : RR s s10 := RR_tr R6 n2.1
  have E10 : s10.1 88 14 = s.1 88 14 := n2.2.2.trans E6
  have K10 : ∀ j, j < 2 * r → s10.1 94 j = s.1 94 j := fun j hj => (n2.2.1 j (by omega)).trans (K6 j hj)
  refine ok_ite (fun _ => ok_some ⟨pb0, R10, E10, K10, fun q => absurd z0 q⟩) (fun c => ?_)
  obtain ⟨p10, w10, t10⟩ := n3 c
  rw [(by decide : (ci 1).toInt = 1), (by decide : (c16 999).toInt = 999)] at w10
  refine ok_b2 (T_X12_needR p10 (by decide)) (fun v15 s14 hq => ?_)
  obtain ⟨_, q2, q3⟩ := hq
  have o2 : RB s10 s14 := q2
  have o3 : ¬ v15 = 0 → PI s14 ∧ (s10.1 88 18).toInt < (s14.1 88 18).toInt := q3
  clear q2 q3
  have R14 : RR s s14 := RR_tr R10 o2.1
  have E14 : s14.1 88 14 = s.1 88 14 := o2.2.2.trans E10
  have K14 : ∀ j, j < 2 * r → s14.1 94 j = s.1 94 j := fun j hj => (congrFun o2.2.1 j).trans (K10 j hj)
  refine ok_ite (fun _ => ok_some ⟨pb0, R14, E14, K14, fun q => absurd z0 q⟩) (fun c => ?_)
  obtain ⟨p14, t14⟩ := o3 c
  refine ok_some ⟨pb1, R14, E14, K14, fun _ => ⟨p14, fun j h1 h2 => ?_, show (s.1 88 18).toInt < (s14.1 88 18).toInt by omega⟩⟩
  show 1 ≤ (s14.1 94 j).toInt ∧ (s14.1 94 j).toInt ≤ 999
  rw [congrFun o2.2.1 j]
  by_cases e : j = 2 * r
  · subst e; rw [n2.2.1 _ (by omega)]; exact w6
  · have e' : j = 2 * r + 1 := by omega
    subst e'; exact w10
theorem T_X12_aShift {s : mG} {r : Nat} (h : PI s) (hr : (s.1 88 14).toInt = (r : Int)) (hr12 : r < 12) : ok (F_X12_aShift s) (fun τ => PB τ.1 ∧ RR s τ.2 ∧ τ.2.1 88 14 = s.1 88 14 ∧ (¬ τ.1 = 0 → PI τ.2 ∧ (s.1 88 18).toInt < (τ.2.1 88 18).toInt)) := by
  unfold F_X12_aShift F_X12_aShift_90
  refine ok_b2 (T_X12_told (n := 4 * r) h ((r_mul (by decide : (ci 4).toInt = 4) hr (by omega) (by omega)).trans (by omega)) (by omega) (by decide)) (fun v3 s2 hq => ?_)
  obtain ⟨_, q2, q3⟩ := hq
  have m2 : RR s s2 := q2.1
  have e2 : s2.1 88 14 = s.1 88 14 := q2.2.2
  refine ok_ite (fun _ => ok_some ⟨pb0, m2, e2, fun q => absurd z0 q⟩) (fun c => ?_)
  obtain ⟨u1, _, u3⟩ := q3 c
  have p2 : PI s2 := u1
  have t2 : (s.1 88 18).toInt < (s2.1 88 18).toInt := u3
  clear q2 q3 u1 u3
  refine ok_b2 (T_X12_told (n := 4 * r + 1) p2 ((r_add (r_mul (by decide : (ci 4).toInt = 4) (by rw [e2]; exact hr : (s2.1 88 14).toInt = (r : Int)) (by omega) (by omega)) (by decide : (ci 1).toInt = 1) (by omega) (by omega)).trans (by omega)) (by omega) (by decide)) (fun v7 s6 hq => ?_)
  obtain ⟨_, q2, q3⟩ := hq
  have m6 : RR s s6 := RR_tr m2 q2.1
  have e6 : s6.1 88 14 = s.1 88 14 := q2.2.2.trans e2
  refine ok_ite (fun _ => ok_some ⟨pb0, m6, e6, fun q => absurd z0 q⟩) (fun c => ?_)
  obtain ⟨u1, _, u3⟩ := q3 c
  have p6 : PI s6 := u1
  have t6 : (s2.1 88 18).toInt < (s6.1 88 18).toInt := u3
  clear q2 q3 u1 u3
  refine ok_b2 (T_X12_told (n := 4 * r + 2) p6 ((r_add (r_mul (by decide : (ci 4).toInt = 4) (by rw [e6]; exact hr : (s6.1 88 14).toInt = (r : Int)) (by omega) (by omega)) (by decide : (ci 2).toInt = 2) (by omega) (by omega)).trans (by omega)) (by omega) (by decide)) (fun v11 s10 hq => ?_)
  obtain ⟨_, q2, q3⟩ := hq
  have m10 : RR s s10 := RR_tr m6 q2.1
  have e10 : s10.1 88 14 = s.1 88 14 := q2.2.2.trans e6
  refine ok_ite (fun _ => ok_some ⟨pb0, m10, e10, fun q => absurd z0 q⟩) (fun c => ?_)
  obtain ⟨u1, _, u3⟩ := q3 c
  have p10 : PI s10 := u1
  have t10 : (s6.1 88 18).toInt < (s10.1 88 18).toInt := u3
  clear q2 q3 u1 u3
  refine ok_b2 (T_X12_told (n := 4 * r + 3) p10 ((r_add (r_mul (by decide : (ci 4).toInt = 4) (by rw [e10]; exact hr : (s10.1 88 14).toInt = (r : Int)) (by omega) (by omega)) (by decide : (ci 3).toInt = 3) (by omega) (by omega)).trans (by omega)) (by omega) (by decide)) (fun v15 s14 hq => ?_)
  obtain ⟨_, q2, q3⟩ := hq
  have m14 : RR s s14 := RR_tr m10 q2.1
  have e14 : s14.1 88 14 = s.1 88 14 := q2.2.2.trans e10
  refine ok_ite (fun _ => ok_some ⟨pb0, m14, e14, fun q => absurd z0 q⟩) (fun c => ?_)
  obtain ⟨u1, _, u3⟩ := q3 c
  have p14 : PI s14 := u1
  have t14 : (s10.1 88 18).toInt < (s14.1 88 18).toInt := u3
  clear q2 q3 u1 u3
  refine ok_b2 (T_X12_needR p14 (by decide)) (fun v19 s18 hq => ?_)
  obtain ⟨_, q2, q3⟩ := hq
  have m18 : RR s s18 := RR_tr m14 q2.1
  have e18 : s18.1 88 14 = s.1 88 14 := q2.2.2.trans e14
  refine ok_ite (fun _ => ok_some ⟨pb0, m18, e18, fun q => absurd z0 q⟩) (fun c => ?_)
  obtain ⟨u1, u3⟩ := q3 c
  have p18 : PI s18 := u1
  have t18 : (s14.1 88 18).toInt < (s18.1 88 18).toInt := u3
  exact ok_some ⟨pb1, m18, e18, fun _ => ⟨p18, show (s.1 88 18).toInt < (s18.1 88 18).toInt by omega⟩⟩
/-- rows, read so far; k is the text's kind -/
def RSx (k : Int32) (s : mG) : Prop := PI s ∧ 0 ≤ (s.1 88 14).toInt ∧ (s.1 88 14).toInt ≤ 12 ∧ (k = ci 1 → (s.1 88 14).toInt ≤ 6 ∧ ∀ j : Nat, (j : Int) < 2 * (s.1 88 14).toInt → 1 ≤ (s.1 94 j).toInt ∧ (s.1 94 j).toInt ≤ 999)
theorem T_X12_readsRows {s : mG} (h : PI s) : ok (F_X12_readsRows s) (fun τ => PB τ.1 ∧ RT s τ.2 ∧ (¬ τ.1 = 0 → RSx (s.1 88 11) τ.2)) := by
  unfold F_X12_readsRows
  extract_lets +onlyGivenNames s1
  have r1 : RR s s1 := RR_mu (by omega)
  have c1 : ∀ k, k ≠ 14 → s1.1 88 k = s.1 88 k := fun k hk => mu_cellP (Or.inr hk)
  have v1 : s1.1 88 14 = ci 0 := mu_sameP
  clear_value s1
  have z : (ci 0).toInt = 0 := by decide
  have p1 : PI s1 := by
    unfold PI
    rw [c1 15 (by decide), c1 16 (by decide), c1 17 (by decide), c1 18 (by decide)]
    exact h
  have L1 : RSx (s.1 88 11) s1 := ⟨p1, by rw [v1, z]; omega, by rw [v1, z]; omega, fun _ => ⟨by rw [v1, z]; omega, fun j hj => by rw [v1, z] at hj; omega⟩⟩
  unfold F_X12_readsRows_L7
  refine ok_whl (fun v => PB v.1 ∧ RR s v.2 ∧ (¬ v.1 = 0 → RSx (s.1 88 11) v.2)) (fun v => mGd v.1 v.2) ⟨pb1, r1, fun _ => L1⟩ (fun v hv => ?_)
  obtain ⟨x1, s3⟩ := v
  obtain ⟨q1, q2, q3⟩ := hv
  have k1 : PB x1 := q1
  have k2 : RR s s3 := q2
  have k3 : ¬ x1 = 0 → RSx (s.1 88 11) s3 := q3
  clear q1 q2 q3
  show ok (F_X12_readsRows_B7 x1 s3) _
  unfold F_X12_readsRows_B7 F_X12_readsRows_115
  have fin : ok (b1 (if x1 = 0 ∨ x1 = 1 then some (x1, s3) else none) fun τ => some (Sum.inr τ)) (lpost (fun (v : Int32 × mG) => PB v.1 ∧ RR s v.2 ∧ (¬ v.1 = 0 → RSx (s.1 88 11) v.2)) (fun v => mGd v.1 v.2) (mGd x1 s3) (fun τ => PB τ.1 ∧ RT s τ.2 ∧ (¬ τ.1 = 0 → RSx (s.1 88 11) τ.2))) := by
    rw [if_pos (show x1 = 0 ∨ x1 = 1 from k1)]
    exact ok_some (lp_inr ⟨k1, RT_RR k2, k3⟩)
  refine ok_ite (fun _ => fin) (fun c0 => ?_)
  refine ok_ite (fun _ => fin) (fun c17 => ?_)
  obtain ⟨w1, w2, w3, w4⟩ := k3 c0
  obtain ⟨n, en⟩ : ∃ n : Nat, (s3.1 88 14).toInt = (n : Int) := ⟨(s3.1 88 14).toInt.toNat, by omega⟩
  have m0 : mGd x1 s3 = mUp (s3.1 88 18) + 1 := if_neg c0
  have e11 : s3.1 88 11 = s.1 88 11 := k2.2 11 (by omega)
  have bad : ∀ x, ok (b2 (F_X12_bad x s3) fun v s' => if v = 0 ∨ v = 1 then some (Sum.inr (v, s')) else none) (lpost (fun (v : Int32 × mG) => PB v.1 ∧ RR s v.2 ∧ (¬ v.1 = 0 → RSx (s.1 88 11) v.2)) (fun v => mGd v.1 v.2) (mGd x1 s3) (fun τ => PB τ.1 ∧ RT s τ.2 ∧ (¬ τ.1 = 0 → RSx (s.1 88 11) τ.2))) := by
    intro x
    refine ok_b2 T_X12_badR (fun v s' hq => ?_)
    have hv : v = ci 0 := hq.1
    have hr : RB s3 s' := hq.2
    subst hv
    rw [if_pos (show ci 0 = 0 ∨ ci 0 = 1 from pb0)]
    exact ok_some (lp_inr ⟨pb0, RT_RR (RR_tr k2 hr.1), fun q => absurd z0 q⟩)
  have step : ∀ v s', PB v → RR s3 s' → s'.1 88 14 = s3.1 88 14 → (¬ v = 0 → PI s' ∧ (s3.1 88 18).toInt < (s'.1 88 18).toInt ∧ (n : Int) + 1 ≤ 12 ∧ (s.1 88 11 = ci 1 → (n : Int) + 1 ≤ 6 ∧ ∀ j : Nat, j < 2 * n + 2 → 1 ≤ (s'.1 94 j).toInt ∧ (s'.1 94 j).toInt ≤ 999)) → ok (F_X12_readsRows_93 v s') (lpost (fun (v : Int32 × mG) => PB v.1 ∧ RR s v.2 ∧ (¬ v.1 = 0 → RSx (s.1 88 11) v.2)) (fun v => mGd v.1 v.2) (mGd x1 s3) (fun τ => PB τ.1 ∧ RT s τ.2 ∧ (¬ τ.1 = 0 → RSx (s.1 88 11) τ.2))) := by
    intro v s' hb hR h14 hg
    unfold F_X12_readsRows_93 F_X12_readsRows_108
    refine ok_ite (fun cv => ?_) (fun cv => ?_)
    · refine ok_some (lp_inl ⟨hb, RR_tr k2 (RR_tr hR (RR_mu (by omega))), fun q => absurd cv q⟩ ?_)
      show mGd v _ < mGd x1 s3
      rw [m0, show mGd v (mu s'.1 88 14 (s'.1 88 14 + ci 0), s'.2) = 0 from if_pos cv]
      omega
    · obtain ⟨u1, u2, u3, u4⟩ := hg cv
      extract_lets +onlyGivenNames s10
      have rt : RR s' s10 := RR_mu (by omega)
      have cc : ∀ k, k ≠ 14 → s10.1 88 k = s'.1 88 k := fun k hk => mu_cellP (Or.inr hk)
      have rr : s10.1 94 = s'.1 94 := mu_rowP (by decide)
      have vv : s10.1 88 14 = s'.1 88 14 + ci 1 := mu_sameP
      clear_value s10
      have t14 : (s10.1 88 14).toInt = (n : Int) + 1 := by rw [vv, h14, t_up (by omega), en]
      have p10 : PI s10 := by
        unfold PI
        rw [cc 15 (by decide), cc 16 (by decide), cc 17 (by decide), cc 18 (by decide)]
        exact u1
      have L10 : RSx (s.1 88 11) s10 := ⟨p10, by omega, by omega, fun q => ⟨by have := (u4 q).1; omega, fun j hj => by rw [rr]; exact (u4 q).2 j (by omega)⟩⟩
      refine ok_some (lp_inl ⟨hb, RR_tr k2 (RR_tr hR rt), fun _ => L10⟩ ?_)
      show mGd v s10 < mGd x1 s3
      rw [m0, show mGd v s10 = mUp (s10.1 88 18) + 1 from if_neg cv, cc 18 (by decide)]
      have b1 := u1.2.2.1
      have b2 := u1.2.2.2.1
      have b3 := u1.1
      unfold mUp
      omega
  have go : ok (if s3.1 88 11 = ci 1 then F_X12_readsRows_65 (s3.1 88 14) (c8 6) s3 else F_X12_readsRows_65 (s3.1 88 14) (c8 12) s3) (lpost (fun (v : Int32 × mG) => PB v.1 ∧ RR s v.2 ∧ (¬ v.1 = 0 → RSx (s.1 88 11) v.2)) (fun v => mGd v.1 v.2) (mGd x1 s3) (fun τ => PB τ.1 ∧ RT s τ.2 ∧ (¬ τ.1 = 0 → RSx (s.1 88 11) τ.2))) := by
    unfold F_X12_readsRows_65
    refine ok_ite (fun c1 => ?_) (fun c1 => ?_)
    · obtain ⟨x6, x7⟩ := w4 (by rw [← e11]; exact c1)
      refine ok_ite (fun _ => bad _) (fun c6 => ?_)
      have c6' := r_ne en (by decide : (c8 6).toInt = 6) c6
      rw [if_pos c1]
      refine ok_b2 (T_X12_aSign (r := n) w1 en (by omega)) (fun v s' hq => ?_)
      obtain ⟨o1, o2, o3, o4, o5⟩ := hq
      have a1 : PB v := o1
      have a2 : RR s3 s' := o2
      have a3 : s'.1 88 14 = s3.1 88 14 := o3
      have a4 : ∀ j, j < 2 * n → s'.1 94 j = s3.1 94 j := o4
      have a5 : ¬ v = 0 → PI s' ∧ (∀ j, 2 * n ≤ j → j < 2 * n + 2 → 1 ≤ (s'.1 94 j).toInt ∧ (s'.1 94 j).toInt ≤ 999) ∧ (s3.1 88 18).toInt < (s'.1 88 18).toInt := o5
      clear o1 o2 o3 o4 o5
      refine step v s' a1 a2 a3 (fun hv => ?_)
      obtain ⟨y1, y2, y3⟩ := a5 hv
      refine ⟨y1, y3, by omega, fun _ => ⟨by omega, fun j hj => ?_⟩⟩
      by_cases e : j < 2 * n
      · rw [a4 j e]; exact x7 j (by omega)
      · exact y2 j (by omega) hj
    · refine ok_ite (fun _ => bad _) (fun c6 => ?_)
      have c6' := r_ne en (by decide : (c8 12).toInt = 12) c6
      rw [if_neg c1]
      refine ok_b2 (T_X12_aShift (r := n) w1 en (by omega)) (fun v s' hq => ?_)
      obtain ⟨o1, o2, o3, o5⟩ := hq
      have a1 : PB v := o1
      have a2 : RR s3 s' := o2
      have a3 : s'.1 88 14 = s3.1 88 14 := o3
      have a5 : ¬ v = 0 → PI s' ∧ (s3.1 88 18).toInt < (s'.1 88 18).toInt := o5
      clear o1 o2 o3 o5
      refine step v s' a1 a2 a3 (fun hv => ?_)
      obtain ⟨y1, y3⟩ := a5 hv
      exact ⟨y1, y3, by omega, fun q => absurd (e11.trans q) c1⟩
  unfold F_X12_readsRows_37
  exact ok_ite (fun _ => ok_ite (fun _ => go) (fun _ => bad _)) (fun _ => ok_ite (fun _ => go) (fun _ => bad _))
end
/-! 59.e.puts -/
section
/-! THE REFERENCE READS A TEXT: what was read is put into the house -/
def RF15 (s s' : mG) : Prop := RF s s' ∧ s'.1 88 15 = s.1 88 15
theorem T_X12_putsLaw {s : mG} (hI : IM s) (hs0 : 0 ≤ (s.1 88 13).toInt) (hs : (s.1 88 13).toInt ≤ 410) (hl0 : 0 ≤ (s.1 88 12).toInt) (hl : (s.1 88 12).toInt ≤ 16) (hL : ∀ i : Nat, (i : Int) < (s.1 88 12).toInt → LO s i) : ok (F_X12_putsLaw s) (fun τ => True ∧ RF15 s τ.2) := by
  unfold F_X12_putsLaw
  extract_lets +onlyGivenNames s1
  have r1 : ∀ j, j ≠ 89 → s1.1 j = s.1 j := fun j hj => mu_rowP hj
  have c1 : ∀ k, k ≠ 117 → s1.1 89 k = s.1 89 k := fun k hk => mu_cellP (Or.inr hk)
  have v1 : s1.1 89 117 = s.1 88 12 := mu_sameP
  clear_value s1
  unfold F_X12_putsLaw_L13
  refine ok_whl (fun v => 0 ≤ v.1.toInt ∧ v.1.toInt ≤ 16 ∧ (∀ j, j ≠ 89 → v.2.1 j = s.1 j) ∧ (∀ k, k ≠ 117 → ¬ (985 ≤ k ∧ k ≤ 1048) → v.2.1 89 k = s.1 89 k) ∧ v.2.1 89 117 = s.1 88 12 ∧ (∀ i : Nat, (i : Int) < v.1.toInt → v.2.1 89 (985 + i) = s.1 92 (4 * i) ∧ v.2.1 89 (1001 + i) = s.1 92 (4 * i + 1) ∧ v.2.1 89 (1017 + i) = s.1 92 (4 * i + 2))) (fun v => mUp v.1) ⟨show 0 ≤ (ci 0).toInt by decide, show (ci 0).toInt ≤ 16 by decide, r1, fun k h1 _ => c1 k h1, v1, fun i (hi : (i : Int) < (ci 0).toInt) => by rw [show (ci 0).toInt = 0 by decide] at hi; omega⟩ (fun v hv => ?_)
  obtain ⟨x1, s2⟩ := v
  obtain ⟨q1, q2, q3, q4, q5, q6⟩ := hv
  have k1 : 0 ≤ x1.toInt := q1
  have k2 : x1.toInt ≤ 16 := q2
  have k3 : ∀ j, j ≠ 89 → s2.1 j = s.1 j := q3
  have k4 : ∀ k, k ≠ 117 → ¬ (985 ≤ k ∧ k ≤ 1048) → s2.1 89 k = s.1 89 k := q4
  have k5 : s2.1 89 117 = s.1 88 12 := q5
  have k6 : ∀ i : Nat, (i : Int) < x1.toInt → s2.1 89 (985 + i) = s.1 92 (4 * i) ∧ s2.1 89 (1001 + i) = s.1 92 (4 * i + 1) ∧ s2.1 89 (1017 + i) = s.1 92 (4 * i + 2) := q6
  clear q1 q2 q3 q4 q5 q6
  show ok (F_X12_putsLaw_B13 x1 s2) _
  unfold F_X12_putsLaw_B13
  have e12 : s2.1 88 12 = s.1 88 12 := congrFun (k3 88 (by decide)) 12
  have e13 : s2.1 88 13 = s.1 88 13 := congrFun (k3 88 (by decide)) 13
  rw [e12]
  refine ok_ite (fun c => ?_) (fun c => ?_)
  · have d1 := r_le (rfl : (s.1 88 12).toInt = _) (rfl : x1.toInt = _) c
    refine ok_b1r ?_
    unfold F_X12_putsLaw_L107
    refine ok_whl (fun v => 0 ≤ v.1.toInt ∧ v.1.toInt ≤ 820 ∧ (∀ j, j ≠ 89 → v.2.1 j = s.1 j) ∧ (∀ k, ¬ (1050 ≤ k ∧ k ≤ 1869) → v.2.1 89 k = s2.1 89 k) ∧ (∀ i : Nat, (i : Int) < v.1.toInt → v.2.1 89 (1050 + i) = s.1 93 i)) (fun v => mUp v.1) ⟨show 0 ≤ (ci 0).toInt by decide, show (ci 0).toInt ≤ 820 by decide, k3, fun _ _ => rfl, fun i (hi : (i : Int) < (ci 0).toInt) => by rw [show (ci 0).toInt = 0 by decide] at hi; omega⟩ (fun v hv => ?_)
    obtain ⟨x2, s3⟩ := v
    obtain ⟨q1, q2, q3, q4, q5⟩ := hv
    have m1 : 0 ≤ x2.toInt := q1
    have m2 : x2.toInt ≤ 820 := q2
    have m3 : ∀ j, j ≠ 89 → s3.1 j = s.1 j := q3
    have m4 : ∀ k, ¬ (1050 ≤ k ∧ k ≤ 1869) → s3.1 89 k = s2.1 89 k := q4
    have m5 : ∀ i : Nat, (i : Int) < x2.toInt → s3.1 89 (1050 + i) = s.1 93 i := q5
    clear q1 q2 q3 q4 q5
    show ok (F_X12_putsLaw_B107 x2 s3) _
    unfold F_X12_putsLaw_B107
    have g13 : s3.1 88 13 = s.1 88 13 := congrFun (m3 88 (by decide)) 13
    rw [g13]
    refine ok_ite (fun c => ?_) (fun c => ?_)
    · have d2 := r_le (r_mul (by decide : (ci 2).toInt = 2) (rfl : (s.1 88 13).toInt = _) (by omega) (by omega)) (rfl : x2.toInt = _) c
      have cell : ∀ k, k ≠ 117 → ¬ (985 ≤ k ∧ k ≤ 1048) → ¬ (1050 ≤ k ∧ k ≤ 1869) → s3.1 89 k = s.1 89 k := fun k h1 h2 h3 => (m4 k h3).trans (k4 k h1 h2)
      have e117 : s3.1 89 117 = s.1 88 12 := (m4 117 (by omega)).trans k5
      refine ok_some (lp_inr ⟨trivial, ⟨⟨⟨?_, ?_, ?_, ?_, ?_, ?_⟩, fun j hj => m3 j (by omega), fun j hj => cell j (by unfold SK at hj; omega) (by unfold SK at hj; omega) (by unfold SK at hj; omega)⟩, congrFun (m3 88 (by decide)) 15⟩⟩)
      · show WI (s3.1 89)
        obtain ⟨w1, w2, w3, w4, w5, w6, w7, w8, w9, w10, w11⟩ := hI.1
        refine ⟨by rw [cell _ (by omega) (by omega) (by omega)]; exact w1, by rw [cell _ (by omega) (by omega) (by omega)]; exact w2, by rw [cell _ (by omega) (by omega) (by omega)]; exact w3, by rw [e117]; exact ⟨hl0, hl⟩, by rw [cell _ (by omega) (by omega) (by omega)]; exact w5, by rw [cell _ (by omega) (by omega) (by omega)]; exact w6, fun a ha => ?_, fun a ha hx => ?_, fun a ha hx => ?_, fun a ha hx => ?_, fun a ha hx => ?_⟩
        · rw [cell _ (by omega) (by omega) (by omega)]; exact w7 a ha
        · rw [cell _ (by omega) (by omega) (by omega)] at hx; rw [cell _ (by omega) (by omega) (by omega)]; exact w8 a ha hx
        · rw [cell _ (by omega) (by omega) (by omega)] at hx; rw [cell _ (by omega) (by omega) (by omega)]; exact w9 a ha hx
        · rw [cell _ (by omega) (by omega) (by omega)] at hx; rw [cell _ (by omega) (by omega) (by omega)]; exact w10 a ha hx
        · rw [e117] at hx
          obtain ⟨y1, y2, y3⟩ := k6 a (by omega)
          obtain ⟨p, q, r, o1, o2, o3, o4, o5, o6, o7, o8⟩ := hL a hx
          refine ⟨p, q, r, by omega, o2, o3, ?_, ?_, ?_, Rc_congr _ _ _ _ (fun j _ hj => m5 j (by omega)) o7, ?_⟩
          · rw [m4 _ (by omega), y1]; exact o4
          · rw [m4 _ (by omega), y2]; exact o5
          · rw [m4 _ (by omega), y3]; exact o6
          · rcases o8 with e | e
            · exact Or.inl e
            · exact Or.inr (Rc_congr _ _ _ _ (fun j _ hj => m5 j (by omega)) e)
      · show KI (s3.1 89 112).toInt (s3.1 89)
        rw [cell 112 (by omega) (by omega) (by omega)]
        exact KI_congr (fun j hj => cell j (by unfold kK at hj; omega) (by unfold kK at hj; omega) (by unfold kK at hj; omega)) hI.2.1
      · show s3.1 88 4 ≠ 0 → _
        rw [m3 88 (by decide), m3 90 (by decide)]; exact hI.2.2.1
      · show 0 ≤ (s3.1 88 3).toInt ∧ (s3.1 88 3).toInt ≤ 6
        rw [m3 88 (by decide)]; exact hI.2.2.2.1
      · intro j hj hx
        replace hx : (j : Int) < (s3.1 88 3).toInt := hx
        rw [m3 88 (by decide)] at hx
        show KI (s3.1 89 112).toInt (fun k => s3.1 91 (112 * j + k))
        rw [cell 112 (by omega) (by omega) (by omega), m3 91 (by decide)]
        exact hI.2.2.2.2.1 j hj hx
      · show 0 ≤ (s3.1 88 15).toInt ∧ (s3.1 88 15).toInt ≤ 400
        rw [m3 88 (by decide)]; exact hI.2.2.2.2.2
    · have d2 := r_nle (r_mul (by decide : (ci 2).toInt = 2) (rfl : (s.1 88 13).toInt = _) (by omega) (by omega)) (rfl : x2.toInt = _) c
      refine ok_nn (ix_ok (rfl : x2.toInt = _) (by omega) (by omega)) ?_
      refine ok_nn (ix_ok (r_add (by decide : (c16 1050).toInt = 1050) (rfl : x2.toInt = _) (by omega) (by omega)) (by omega) (by omega)) ?_
      rw [r_nat2 (e := (c16 1050) + x2) (m := 1050 + x2.toInt.toNat) (r_add (by decide : (c16 1050).toInt = 1050) (rfl : x2.toInt = _) (by omega) (by omega)) (by omega), t_nat]
      extract_lets +onlyGivenNames s6
      have g1 : ∀ j, j ≠ 89 → s6.1 j = s.1 j := fun j hj => (mu_rowP hj : s6.1 j = s3.1 j).trans (m3 j hj)
      have g0 : s6.1 89 (1050 + x2.toInt.toNat) = s.1 93 x2.toInt.toNat := (mu_sameP : s6.1 89 (1050 + x2.toInt.toNat) = s3.1 93 x2.toInt.toNat).trans (by rw [m3 93 (by decide)])
      have g2 : ∀ k, k ≠ 1050 + x2.toInt.toNat → s6.1 89 k = s3.1 89 k := fun k hk => mu_cellP (Or.inr hk)
      clear_value s6
      have g4 : ∀ i : Nat, (i : Int) < (x2 + ci 1).toInt → s6.1 89 (1050 + i) = s.1 93 i := by
        intro i hi
        rw [t_up (by omega)] at hi
        by_cases q : i = x2.toInt.toNat
        · subst q; exact g0
        · rw [g2 _ (by omega)]; exact m5 i (by omega)
      exact ok_some (lp_inl ⟨up_0 (x := x2) m1 (by omega), up_le (x := x2) (by omega) (by omega), g1, fun k hk => (g2 k (by omega)).trans (m4 k hk), g4⟩ (up_t (x := x2) (by omega)))
  · have d1 := r_nle (rfl : (s.1 88 12).toInt = _) (rfl : x1.toInt = _) c
    obtain ⟨n, en⟩ : ∃ n : Nat, x1.toInt = (n : Int) := ⟨x1.toInt.toNat, by omega⟩
    have F : ∀ {d : Int32} {i : Nat}, d.toInt = (i : Int) → i < 4 → (((ci 4) * x1) + d).toInt = 4 * (n : Int) + i := fun hd hi => r_add (r_mul (by decide) en (by omega) (by omega)) hd (by omega) (by omega)
    have W : ∀ {d : Int32} {b : Nat}, d.toInt = (b : Int) → b < 2000 → (d + x1).toInt = (b : Int) + n := fun hd hb => r_add hd en (by omega) (by omega)
    have e92 : ∀ k, s2.1 92 k = s.1 92 k := fun k => congrFun (k3 92 (by decide)) k
    refine ok_nn (ix_ok (r_mul (by decide : (ci 4).toInt = 4) en (by omega) (by omega)) (by omega) (by omega)) ?_
    refine ok_nn (ix_ok (W (b := 985) (by decide) (by decide)) (by omega) (by omega)) ?_
    rw [r_nat2 (e := (ci 4) * x1) (m := 4 * n) (r_mul (by decide : (ci 4).toInt = 4) en (by omega) (by omega)) (by omega), r_nat2 (e := (c16 985) + x1) (m := 985 + n) (W (b := 985) (by decide) (by decide)) (by omega)]
    extract_lets +onlyGivenNames s9
    have a1 : ∀ j, j ≠ 89 → s9.1 j = s2.1 j := fun j hj => mu_rowP hj
    have a2 : ∀ k, k ≠ 985 + n → s9.1 89 k = s2.1 89 k := fun k hk => mu_cellP (Or.inr hk)
    have a3 : s9.1 89 (985 + n) = s.1 92 (4 * n) := (mu_sameP : s9.1 89 (985 + n) = s2.1 92 (4 * n)).trans (e92 _)
    clear_value s9
    refine ok_nn (ix_ok (F (i := 1) (by decide) (by decide)) (by omega) (by omega)) ?_
    refine ok_nn (ix_ok (W (b := 1001) (by decide) (by decide)) (by omega) (by omega)) ?_
    rw [r_nat2 (e := ((ci 4) * x1) + (ci 1)) (m := 4 * n + 1) (F (i := 1) (by decide) (by decide)) (by omega), r_nat2 (e := (c16 1001) + x1) (m := 1001 + n) (W (b := 1001) (by decide) (by decide)) (by omega)]
    extract_lets +onlyGivenNames s12
    have b1 : ∀ j, j ≠ 89 → s12.1 j = s9.1 j := fun j hj => mu_rowP hj
    have b2 : ∀ k, k ≠ 1001 + n → s12.1 89 k = s9.1 89 k := fun k hk => mu_cellP (Or.inr hk)
    have b3 : s12.1 89 (1001 + n) = s.1 92 (4 * n + 1) := (mu_sameP : s12.1 89 (1001 + n) = s9.1 92 (4 * n + 1)).trans ((congrFun (a1 92 (by decide)) _).trans (e92 _))
    clear_value s12
    refine ok_nn (ix_ok (F (i := 2) (by decide) (by decide)) (by omega) (by omega)) ?_
    refine ok_nn (ix_ok (W (b := 1017) (by decide) (by decide)) (by omega) (by omega)) ?_
    rw [r_nat2 (e := ((ci 4) * x1) + (ci 2)) (m := 4 * n + 2) (F (i := 2) (by decide) (by decide)) (by omega), r_nat2 (e := (c16 1017) + x1) (m := 1017 + n) (W (b := 1017) (by decide) (by decide)) (by omega)]
    extract_lets +onlyGivenNames s15
    have d1' : ∀ j, j ≠ 89 → s15.1 j = s12.1 j := fun j hj => mu_rowP hj
    have d2 : ∀ k, k ≠ 1017 + n → s15.1 89 k = s12.1 89 k := fun k hk => mu_cellP (Or.inr hk)
    have d3 : s15.1 89 (1017 + n) = s.1 92 (4 * n + 2) := (mu_sameP : s15.1 89 (1017 + n) = s12.1 92 (4 * n + 2)).trans ((congrFun (b1 92 (by decide)) _).trans ((congrFun (a1 92 (by decide)) _).trans (e92 _)))
    clear_value s15
    refine ok_nn (ix_ok (F (i := 3) (by decide) (by decide)) (by omega) (by omega)) ?_
    refine ok_nn (ix_ok (W (b := 1033) (by decide) (by decide)) (by omega) (by omega)) ?_
    rw [r_nat2 (e := (c16 1033) + x1) (m := 1033 + n) (W (b := 1033) (by decide) (by decide)) (by omega)]
    extract_lets +onlyGivenNames s18
    have f1 : ∀ j, j ≠ 89 → s18.1 j = s15.1 j := fun j hj => mu_rowP hj
    have f2 : ∀ k, k ≠ 1033 + n → s18.1 89 k = s15.1 89 k := fun k hk => mu_cellP (Or.inr hk)
    clear_value s18
    clear F W
    have all : ∀ k, k ≠ 985 + n → k ≠ 1001 + n → k ≠ 1017 + n → k ≠ 1033 + n → s18.1 89 k = s2.1 89 k := fun k h1 h2 h3 h4 => (f2 k h4).trans ((d2 k h3).trans ((b2 k h2).trans (a2 k h1)))
    have u6 : ∀ i : Nat, (i : Int) < (x1 + ci 1).toInt → s18.1 89 (985 + i) = s.1 92 (4 * i) ∧ s18.1 89 (1001 + i) = s.1 92 (4 * i + 1) ∧ s18.1 89 (1017 + i) = s.1 92 (4 * i + 2) := by
      intro i hi
      rw [t_up (by omega)] at hi
      by_cases q : i = n
      · subst q
        refine ⟨?_, ?_, ?_⟩
        · rw [f2 _ (by omega), d2 _ (by omega), b2 _ (by omega)]; exact a3
        · rw [f2 _ (by omega), d2 _ (by omega)]; exact b3
        · rw [f2 _ (by omega)]; exact d3
      · obtain ⟨y1, y2, y3⟩ := k6 i (by omega)
        exact ⟨(all _ (by omega) (by omega) (by omega) (by omega)).trans y1, (all _ (by omega) (by omega) (by omega) (by omega)).trans y2, (all _ (by omega) (by omega) (by omega) (by omega)).trans y3⟩
    exact ok_some (lp_inl ⟨up_0 (x := x1) k1 (by omega), up_le (x := x1) (by omega) (by omega), fun j hj => (f1 j hj).trans ((d1' j hj).trans ((b1 j hj).trans ((a1 j hj).trans (k3 j hj)))), fun k h1 h2 => (all k (by omega) (by omega) (by omega) (by omega)).trans (k4 k h1 h2), (all 117 (by omega) (by omega) (by omega) (by omega)).trans k5, u6⟩ (up_t (x := x1) (by omega)))
theorem T_X12_putsSigns {s : mG} (hI : IM s) (h0 : 0 ≤ (s.1 88 14).toInt) (h6 : (s.1 88 14).toInt ≤ 6) (hv : ∀ j : Nat, (j : Int) < 2 * (s.1 88 14).toInt → 1 ≤ (s.1 94 j).toInt ∧ (s.1 94 j).toInt ≤ 999) : ok (F_X12_putsSigns s) (fun τ => True ∧ RF15 s τ.2) := by
  unfold F_X12_putsSigns
  extract_lets +onlyGivenNames s1
  have r1 : ∀ j, j ≠ 89 → s1.1 j = s.1 j := fun j hj => mu_rowP hj
  have c1 : ∀ k, k ≠ 115 → s1.1 89 k = s.1 89 k := fun k hk => mu_cellP (Or.inr hk)
  have v1 : s1.1 89 115 = s.1 88 14 := mu_sameP
  clear_value s1
  unfold F_X12_putsSigns_L13
  refine ok_whl (fun v => 0 ≤ v.1.toInt ∧ v.1.toInt ≤ 12 ∧ (∀ j, j ≠ 89 → v.2.1 j = s.1 j) ∧ (∀ k, k ≠ 115 → ¬ (143 ≤ k ∧ k ≤ 154) → v.2.1 89 k = s.1 89 k) ∧ v.2.1 89 115 = s.1 88 14 ∧ (∀ i : Nat, (i : Int) < v.1.toInt → v.2.1 89 (143 + i) = s.1 94 i)) (fun v => mUp v.1) ⟨show 0 ≤ (ci 0).toInt by decide, show (ci 0).toInt ≤ 12 by decide, r1, fun k h1 _ => c1 k h1, v1, fun i (hi : (i : Int) < (ci 0).toInt) => by rw [show (ci 0).toInt = 0 by decide] at hi; omega⟩ (fun v hv => ?_)
  obtain ⟨x1, s2⟩ := v
  obtain ⟨q1, q2, q3, q4, q5, q6⟩ := hv
  have k1 : 0 ≤ x1.toInt := q1
  have k2 : x1.toInt ≤ 12 := q2
  have k3 : ∀ j, j ≠ 89 → s2.1 j = s.1 j := q3
  have k4 : ∀ k, k ≠ 115 → ¬ (143 ≤ k ∧ k ≤ 154) → s2.1 89 k = s.1 89 k := q4
  have k5 : s2.1 89 115 = s.1 88 14 := q5
  have k6 : ∀ i : Nat, (i : Int) < x1.toInt → s2.1 89 (143 + i) = s.1 94 i := q6
  clear q1 q2 q3 q4 q5 q6
  show ok (F_X12_putsSigns_B13 x1 s2) _
  unfold F_X12_putsSigns_B13
  have e14 : s2.1 88 14 = s.1 88 14 := congrFun (k3 88 (by decide)) 14
  rw [e14]
  refine ok_ite (fun c => ?_) (fun c => ?_)
  · have d1 := r_le (r_mul (by decide : (ci 2).toInt = 2) (rfl : (s.1 88 14).toInt = _) (by omega) (by omega)) (rfl : x1.toInt = _) c
    refine ok_b1r ?_
    unfold F_X12_putsSigns_L47
    refine ok_whl (fun v => 0 ≤ v.1.toInt ∧ (∀ j, j ≠ 89 → v.2.1 j = s.1 j) ∧ (∀ k, ¬ (39 ≤ k ∧ k ≤ 110) → v.2.1 89 k = s2.1 89 k)) (fun v => mUp v.1) ⟨show 0 ≤ (ci 0).toInt by decide, k3, fun _ _ => rfl⟩ (fun v hv => ?_)
    obtain ⟨x2, s3⟩ := v
    obtain ⟨q1, q3, q4⟩ := hv
    have m1 : 0 ≤ x2.toInt := q1
    have m3 : ∀ j, j ≠ 89 → s3.1 j = s.1 j := q3
    have m4 : ∀ k, ¬ (39 ≤ k ∧ k ≤ 110) → s3.1 89 k = s2.1 89 k := q4
    clear q1 q3 q4
    show ok (F_X12_putsSigns_B47 x2 s3) _
    unfold F_X12_putsSigns_B47
    refine ok_ite (fun c => ?_) (fun c => ?_)
    · unfold F_X12_forgets
      refine ok_b1 (ok_some (Q := fun s' => s' = (mu s3.1 88 3 (ci 0), s3.2)) rfl) (fun s5 hs5 => ?_)
      have row : ∀ j, j ≠ 88 → s5.1 j = s3.1 j := fun j hj => by rw [hs5]; exact mu_rowP hj
      have ce : ∀ k, k ≠ 3 → s5.1 88 k = s3.1 88 k := fun k hk => by rw [hs5]; exact mu_cellP (Or.inr hk)
      have e3 : s5.1 88 3 = ci 0 := by rw [hs5]; exact mu_sameP
      clear hs5
      have z : (ci 0).toInt = 0 := by decide
      have cell : ∀ k, k ≠ 115 → ¬ (143 ≤ k ∧ k ≤ 154) → ¬ (39 ≤ k ∧ k ≤ 110) → s5.1 89 k = s.1 89 k := fun k h1 h2 h3 => (congrFun (row 89 (by decide)) k).trans ((m4 k h3).trans (k4 k h1 h2))
      have e115 : s5.1 89 115 = s.1 88 14 := (congrFun (row 89 (by decide)) 115).trans ((m4 115 (by omega)).trans k5)
      have e143 : ∀ i : Nat, (i : Int) < x1.toInt → s5.1 89 (143 + i) = s.1 94 i := fun i hi => (congrFun (row 89 (by decide)) _).trans ((m4 _ (by omega)).trans (k6 i hi))
      refine ok_some (lp_inr ⟨trivial, ⟨⟨⟨?_, ?_, ?_, ?_, ?_, ?_⟩, fun j hj => (row j (by omega)).trans (m3 j (by omega)), fun j hj => cell j (by unfold SK at hj; omega) (by unfold SK at hj; omega) (by unfold SK at hj; omega)⟩, (ce 15 (by decide)).trans (congrFun (m3 88 (by decide)) 15)⟩⟩)
      · show WI (s5.1 89)
        obtain ⟨w1, w2, w3, w4, w5, w6, w7, w8, w9, w10, w11⟩ := hI.1
        refine ⟨by rw [cell _ (by omega) (by omega) (by omega)]; exact w1, by rw [e115]; exact ⟨h0, h6⟩, by rw [cell _ (by omega) (by omega) (by omega)]; exact w3, by rw [cell _ (by omega) (by omega) (by omega)]; exact w4, by rw [cell _ (by omega) (by omega) (by omega)]; exact w5, by rw [cell _ (by omega) (by omega) (by omega)]; exact w6, fun a ha => ?_, fun a ha hx => ?_, fun a ha hx => ?_, fun a ha hx => ?_, fun a ha hx => ?_⟩
        · rw [cell _ (by omega) (by omega) (by omega)]; exact w7 a ha
        · rw [e115] at hx; rw [e143 a (by omega)]; exact hv a hx
        · rw [cell _ (by omega) (by omega) (by omega)] at hx; rw [cell _ (by omega) (by omega) (by omega)]; exact w9 a ha hx
        · rw [cell _ (by omega) (by omega) (by omega)] at hx; rw [cell _ (by omega) (by omega) (by omega)]; exact w10 a ha hx
        · rw [cell _ (by omega) (by omega) (by omega)] at hx; exact LawOK_congr ha (fun j hj => cell j (by omega) (by omega) (by omega)) (w11 a ha hx)
      · show KI (s5.1 89 112).toInt (s5.1 89)
        rw [cell 112 (by omega) (by omega) (by omega)]
        exact KI_congr (fun j hj => cell j (by unfold kK at hj; omega) (by unfold kK at hj; omega) (by unfold kK at hj; omega)) hI.2.1
      · show s5.1 88 4 ≠ 0 → _
        rw [ce 4 (by decide), m3 88 (by decide), row 90 (by decide), m3 90 (by decide)]; exact hI.2.2.1
      · show 0 ≤ (s5.1 88 3).toInt ∧ (s5.1 88 3).toInt ≤ 6
        rw [e3, z]; omega
      · intro j _ hx
        replace hx : (j : Int) < (s5.1 88 3).toInt := hx
        rw [e3, z] at hx
        omega
      · show 0 ≤ (s5.1 88 15).toInt ∧ (s5.1 88 15).toInt ≤ 400
        rw [ce 15 (by decide), m3 88 (by decide)]; exact hI.2.2.2.2.2
    · have d2 := r_nle (by decide : (c8 72).toInt = 72) (rfl : x2.toInt = _) c
      refine ok_nn (ix_ok (r_add (by decide : (c8 39).toInt = 39) (rfl : x2.toInt = _) (by omega) (by omega)) (by omega) (by omega)) ?_
      rw [r_nat2 (e := (c8 39) + x2) (m := 39 + x2.toInt.toNat) (r_add (by decide : (c8 39).toInt = 39) (rfl : x2.toInt = _) (by omega) (by omega)) (by omega)]
      extract_lets +onlyGivenNames s7
      have g1 : ∀ j, j ≠ 89 → s7.1 j = s.1 j := fun j hj => (mu_rowP hj : s7.1 j = s3.1 j).trans (m3 j hj)
      have g2 : ∀ k, k ≠ 39 + x2.toInt.toNat → s7.1 89 k = s3.1 89 k := fun k hk => mu_cellP (Or.inr hk)
      clear_value s7
      exact ok_some (lp_inl ⟨up_0 (x := x2) m1 (by omega), g1, fun k hk => (g2 k (by omega)).trans (m4 k hk)⟩ (up_t (x := x2) (by omega)))
  · have d1 := r_nle (r_mul (by decide : (ci 2).toInt = 2) (rfl : (s.1 88 14).toInt = _) (by omega) (by omega)) (rfl : x1.toInt = _) c
    refine ok_nn (ix_ok (rfl : x1.toInt = _) (by omega) (by omega)) ?_
    refine ok_nn (ix_ok (r_add (by decide : (c16 143).toInt = 143) (rfl : x1.toInt = _) (by omega) (by omega)) (by omega) (by omega)) ?_
    rw [r_nat2 (e := (c16 143) + x1) (m := 143 + x1.toInt.toNat) (r_add (by decide : (c16 143).toInt = 143) (rfl : x1.toInt = _) (by omega) (by omega)) (by omega), t_nat]
    extract_lets +onlyGivenNames s10
    have g1 : ∀ j, j ≠ 89 → s10.1 j = s.1 j := fun j hj => (mu_rowP hj : s10.1 j = s2.1 j).trans (k3 j hj)
    have g0 : s10.1 89 (143 + x1.toInt.toNat) = s.1 94 x1.toInt.toNat := (mu_sameP : s10.1 89 (143 + x1.toInt.toNat) = s2.1 94 x1.toInt.toNat).trans (by rw [k3 94 (by decide)])
    have g2 : ∀ k, k ≠ 143 + x1.toInt.toNat → s10.1 89 k = s2.1 89 k := fun k hk => mu_cellP (Or.inr hk)
    clear_value s10
    have g4 : ∀ i : Nat, (i : Int) < (x1 + ci 1).toInt → s10.1 89 (143 + i) = s.1 94 i := by
      intro i hi
      rw [t_up (by omega)] at hi
      by_cases q : i = x1.toInt.toNat
      · subst q; exact g0
      · rw [g2 _ (by omega)]; exact k6 i (by omega)
    exact ok_some (lp_inl ⟨up_0 (x := x1) k1 (by omega), up_le (x := x1) (by omega) (by omega), g1, fun k h1 h2 => (g2 k (by omega)).trans (k4 k h1 h2), (g2 115 (by omega)).trans k5, g4⟩ (up_t (x := x1) (by omega)))
theorem IM_116 {s : mG} {v : Int32} (h : IM s) (hv : 0 ≤ v.toInt ∧ v.toInt ≤ 12) : IM (mu s.1 89 116 v, s.2) := by
  have e112 : (mu s.1 89 116 v, s.2).1 89 112 = s.1 89 112 := mu_cellP (by omega)
  refine IM_mk h ?_ ?_ e112 (mu_rowP (by decide)) (mu_rowP (by decide)) (mu_cellP (by omega)) (mu_cellP (by omega)) (mu_cellP (by omega))
  · obtain ⟨q1, q2, q3, q4, q5, q6, q7, q8, q9, q10, q11⟩ := h.1
    have c : ∀ j, j ≠ 116 → (mu s.1 89 116 v, s.2).1 89 j = s.1 89 j := fun j hj => mu_cellP (Or.inr hj)
    have cv : (mu s.1 89 116 v, s.2).1 89 116 = v := mu_sameP
    refine ⟨by rw [c _ (by omega)]; exact q1, by rw [c _ (by omega)]; exact q2, by rw [cv]; exact hv, by rw [c _ (by omega)]; exact q4, by rw [c _ (by omega)]; exact q5, by rw [c _ (by omega)]; exact q6, fun a ha => ?_, fun a ha hl => ?_, fun a ha hl => ?_, fun a ha hl => ?_, fun a ha hl => ?_⟩
    · rw [c _ (by omega)]; exact q7 a ha
    · rw [c _ (by omega)] at hl; rw [c _ (by omega)]; exact q8 a ha hl
    · rw [c _ (by omega)] at hl; rw [c _ (by omega)]; exact q9 a ha hl
    · rw [c _ (by omega)] at hl; rw [c _ (by omega)]; exact q10 a ha hl
    · rw [c _ (by omega)] at hl; exact LawOK_congr ha (fun j hj => c j (by omega)) (q11 a ha hl)
  · rw [e112]; exact KI_congr (fun j hj => mu_cellP (Or.inr (by unfold kK at hj; omega))) h.2.1
theorem T_X12_putsShifts {s : mG} (hI : IM s) (h0 : 0 ≤ (s.1 88 14).toInt) (h12 : (s.1 88 14).toInt ≤ 12) : ok (F_X12_putsShifts s) (fun τ => True ∧ RF15 s τ.2) := by
  unfold F_X12_putsShifts
  extract_lets +onlyGivenNames s1
  have h1 : RX s s1 := RX_mk (RX_refl hI) (IM_116 hI ⟨h0, h12⟩) (fun j hj => mu_rowP (by omega)) (mu_cellP (by omega)) (fun j hj => mu_cellP (by unfold SK at hj; omega))
  have e1 : s1.1 88 14 = s.1 88 14 := congrFun (mu_rowP (by decide)) 14
  clear_value s1
  unfold F_X12_putsShifts_L13
  refine ok_whl (fun v => 0 ≤ v.1.toInt ∧ RX s v.2 ∧ v.2.1 88 14 = s.1 88 14) (fun v => mUp v.1) ⟨show 0 ≤ (ci 0).toInt by decide, h1, e1⟩ (fun v hv => ?_)
  obtain ⟨x1, s2⟩ := v
  obtain ⟨q1, q2, q3⟩ := hv
  have k1 : 0 ≤ x1.toInt := q1
  have k2 : RX s s2 := q2
  have k3 : s2.1 88 14 = s.1 88 14 := q3
  clear q1 q2 q3
  show ok (F_X12_putsShifts_B13 x1 s2) _
  unfold F_X12_putsShifts_B13
  rw [k3]
  refine ok_ite (fun _ => ?_) (fun c => ?_)
  · refine ok_b1 (ok_rx k2 (T_X12_forgets k2.1.1)) (fun s4 (h4 : RX s s4) => ?_)
    exact ok_some (lp_inr ⟨trivial, RF_RX h4, h4.1.2.2⟩)
  · have d1 := r_nle (r_mul (by decide : (ci 4).toInt = 4) (rfl : (s.1 88 14).toInt = _) (by omega) (by omega)) (rfl : x1.toInt = _) c
    refine ok_nn (ix_ok (rfl : x1.toInt = _) (by omega) (by omega)) ?_
    refine ok_nn (ix_ok (r_add (by decide : (c16 155).toInt = 155) (rfl : x1.toInt = _) (by omega) (by omega)) (by omega) (by omega)) ?_
    extract_lets +onlyGivenNames s7
    have h7 : RX s s7 := RX_fe k2 (r_add (by decide : (c16 155).toInt = 155) (rfl : x1.toInt = _) (by omega) (by omega)) (by unfold fr kW kK SK; omega)
    have e7 : s7.1 88 14 = s2.1 88 14 := congrFun (mu_rowP (by decide)) 14
    clear_value s7
    exact ok_some (lp_inl ⟨up_0 (x := x1) k1 (by omega), h7, e7.trans k3⟩ (up_t (x := x1) (by omega)))
/-! the whole of a text -/
theorem RF_tr {s s' s2 : mG} (h : RF s s') (k : RF s' s2) : RF s s2 := ⟨k.1, fun j hj => (k.2.1 j hj).trans (h.2.1 j hj), fun j hj => (k.2.2 j hj).trans (h.2.2 j hj)⟩
theorem RF_RT {s s' : mG} (hI : IM s) (h : RT s s') : RF s s' := ⟨IM_RT h hI, fun j hj => h.1 j (by omega) (by omega), fun j _ => by rw [h.1 89 (by decide) (by decide)]⟩
theorem RF_15 {s s' : mG} (hI : IM s) (hs : s' = (mu s.1 88 15 (ci 0), s.2)) : RF s s' := by
  have row : ∀ j, j ≠ 88 → s'.1 j = s.1 j := fun j hj => by rw [hs]; exact mu_rowP hj
  have ce : ∀ k, k ≠ 15 → s'.1 88 k = s.1 88 k := fun k hk => by rw [hs]; exact mu_cellP (Or.inr hk)
  have e15 : s'.1 88 15 = ci 0 := by rw [hs]; exact mu_sameP
  clear hs
  exact ⟨IM_taped hI (fun j h1 _ => row j h1) (ce 3 (by decide)) (ce 4 (by decide)) (by rw [e15]; decide), fun j hj => row j (by omega), fun j _ => by rw [row 89 (by decide)]⟩
theorem text_60 {x1 y0 : Int32} {s : mG} (hI : IM s) (h0 : ¬ y0 = 0 → x1 = 0 → LSx s) (h1 : ¬ y0 = 0 → ¬ x1 = 0 → RSx x1 s) : ok (F_X12_text_60 x1 y0 s) (fun τ => RF s τ.2 ∧ τ.2.1 88 15 = ci 0) := by
  unfold F_X12_text_60
  extract_lets +onlyGivenNames s16
  have h16 : RF s s16 := RF_15 hI rfl
  have row : ∀ j, j ≠ 88 → s16.1 j = s.1 j := fun j hj => mu_rowP hj
  have ce : ∀ k, k ≠ 15 → s16.1 88 k = s.1 88 k := fun k hk => mu_cellP (Or.inr hk)
  have e15 : s16.1 88 15 = ci 0 := mu_sameP
  clear_value s16
  have fin : ∀ (o : Option (Int32 × mG)), ok o (fun τ => True ∧ RF15 s16 τ.2) → ok (b2 o fun v s' => some (v, s')) (fun τ => RF s τ.2 ∧ τ.2.1 88 15 = ci 0) := by
    intro o ho
    refine ok_b2 ho (fun v s' hq => ?_)
    have q : RF15 s16 s' := hq.2
    exact ok_some ⟨RF_tr h16 q.1, q.2.trans e15⟩
  refine ok_ite (fun _ => ?_) (fun cy => ?_)
  · extract_lets +onlyGivenNames s18
    have r18 : RT s16 s18 := RT_mu (by omega)
    clear_value s18
    extract_lets +onlyGivenNames s19
    have r19 : RT s16 s19 := RT_mu1 r18 (by omega)
    clear_value s19
    exact ok_some ⟨RF_tr h16 (RF_RT h16.1 r19), r19.2.2.2.trans e15⟩
  · refine ok_ite (fun cx => ?_) (fun cx => ?_)
    · obtain ⟨w1, w2, w3, w4⟩ := h0 cy cx
      have e13 := ce 13 (by decide)
      have e12 := ce 12 (by decide)
      have a1 := w1.2.1
      have a2 := w1.2.2
      have a3 := w1.1.1
      have a4 := w1.1.2.2.1
      have a5 := w1.1.2.2.2.1
      refine fin _ (T_X12_putsLaw h16.1 (by rw [e13]; exact a1) (by rw [e13]; omega) (by rw [e12]; exact w2) (by rw [e12]; exact w3) (fun i hi => ?_))
      rw [e12] at hi
      exact LO_mono (w4 i hi) (by rw [e13]; omega) (fun k _ => by rw [row 92 (by decide)]) (fun j _ => by rw [row 93 (by decide)])
    · obtain ⟨w1, w2, w3, w4⟩ := h1 cy cx
      have e14 := ce 14 (by decide)
      refine ok_ite (fun c1 => ?_) (fun _ => ?_)
      · obtain ⟨u1, u2⟩ := w4 c1
        refine fin _ (T_X12_putsSigns h16.1 (by rw [e14]; exact w2) (by rw [e14]; exact u1) (fun j hj => ?_))
        rw [e14] at hj
        rw [row 94 (by decide)]
        exact u2 j hj
      · exact fin _ (T_X12_putsShifts h16.1 (by rw [e14]; exact w2) (by rw [e14]; exact w3))
theorem T_X12_text {a1 : Int32} {s : mG} (hI : IM s) : ok (F_X12_text a1 s) (fun τ => RF s τ.2 ∧ τ.2.1 88 15 = ci 0) := by
  unfold F_X12_text
  extract_lets +onlyGivenNames s1
  have r1 : RT s s1 := RT_mu (by omega)
  clear_value s1
  extract_lets +onlyGivenNames s2
  have r2 : RT s s2 := RT_mu1 r1 (by omega)
  clear_value s2
  have I2 : IM s2 := IM_RT r2 hI
  have f2 : RF s s2 := RF_RT hI r2
  rw [F_isIn, b1_some]
  refine ok_ite (fun _ => ?_) (fun _ => ?_)
  · extract_lets +onlyGivenNames s6
    have h6 : RF s2 s6 := RF_15 I2 rfl
    have e6 : s6.1 88 15 = ci 0 := mu_sameP
    clear_value s6
    exact ok_some ⟨RF_tr f2 h6, e6⟩
  · extract_lets +onlyGivenNames s7
    have r7 : RT s2 s7 := RT_mu (by omega)
    clear_value s7
    extract_lets +onlyGivenNames s8
    have r8 : RT s2 s8 := RT_mu1 r7 (by omega)
    have e16 : s8.1 88 16 = ci 0 := mu_sameP
    clear_value s8
    extract_lets +onlyGivenNames s9
    have r9 : RT s2 s9 := RT_mu1 r8 (by omega)
    have f16 : s9.1 88 16 = ci 0 := (mu_cellP (by omega) : s9.1 88 16 = s8.1 88 16).trans e16
    have f11 : s9.1 88 11 = a1 := mu_sameP
    clear_value s9
    have I9 : IM s9 := IM_RT r9 I2
    have t9 := im_tape I9
    have z : (ci 0).toInt = 0 := by decide
    have P9 : P0 s9 := ⟨t9.2, by rw [f16, z]; omega, by rw [f16, z]; exact t9.1⟩
    clear z
    refine ok_b1 (T_X12_next0 P9) (fun s11 n11 => ?_)
    have r11 : RT s2 s11 := RT_tr r9 (RT_RE (RE_RN n11.1))
    have I11 : IM s11 := IM_RT r11 I2
    have f11 : s11.1 88 11 = a1 := (n11.1.2 11 (by decide) (by decide) (by decide) (by decide)).trans f11
    have F11 : RF s s11 := RF_tr f2 (RF_RT I2 r11)
    refine ok_ite (fun c => ?_) (fun c => ?_)
    · refine ok_b2 (T_X12_readsLaw n11.2.1) (fun v15 s14 hq => ?_)
      obtain ⟨_, q2, q3⟩ := hq
      have k2 : RT s11 s14 := q2
      have k3 : ¬ v15 = 0 → LSx s14 := q3
      clear q2 q3
      refine ok_mono (text_60 (IM_RT k2 I11) (fun h _ => k3 h) (fun _ h => absurd c h)) (fun τ q => ⟨RF_tr (RF_tr F11 (RF_RT I11 k2)) q.1, q.2⟩)
    · refine ok_b2 (T_X12_readsRows n11.2.1) (fun v33 s32 hq => ?_)
      obtain ⟨_, q2, q3⟩ := hq
      have k2 : RT s11 s32 := q2
      have k3 : ¬ v33 = 0 → RSx (s11.1 88 11) s32 := q3
      clear q2 q3
      rw [f11] at k3
      refine ok_mono (text_60 (IM_RT k2 I11) (fun _ h => absurd h c) (fun h _ => k3 h)) (fun τ q => ⟨RF_tr (RF_tr F11 (RF_RT I11 k2)) q.1, q.2⟩)
end
/-! 59.u.pk -/
section
noncomputable section
/-! ONE CELL IS KEPT: the class (0,2) (an image stands), the reference (88,4) -/
def pk {α : Type} (o : Option α) (P : α → Prop) : Prop := ∀ a, o = some a → P a
def KV (i k : Nat) (v : Int32) (s : mG) : Prop := s.1 i k = v
def se {α β : Type} (P : α → Prop) (Q : β → Prop) : α ⊕ β → Prop
  | .inl a => P a
  | .inr b => Q b
theorem pk_top {α : Type} {o : Option α} : pk o PT := fun _ _ => trivial
theorem pk_none {α : Type} {P : α → Prop} : pk none P := fun _ h => by cases h
theorem pk_some {α : Type} {a : α} {P : α → Prop} (h : P a) : pk (some a) P := fun _ e => Option.some.inj e ▸ h
theorem pk_nn {c : Prop} [Decidable c] {α : Type} {y : Option α} {P : α → Prop} (h : pk y P) : pk (if c then none else y) P := by
  by_cases q : c
  · rw [if_pos q]; exact pk_none
  · rw [if_neg q]; exact h
theorem pk_pp {c : Prop} [Decidable c] {α : Type} {y : Option α} {P : α → Prop} (h : pk y P) : pk (if c then y else none) P := by
  by_cases q : c
  · rw [if_pos q]; exact h
  · rw [if_neg q]; exact pk_none
theorem pk_ite {c : Prop} [Decidable c] {α : Type} {x y : Option α} {P : α → Prop} (h1 : pk x P) (h2 : pk y P) : pk (if c then x else y) P := by
  by_cases q : c
  · rw [if_pos q]; exact h1
  · rw [if_neg q]; exact h2
theorem pk_b1 {α γ : Type} {o : Option α} {f : α → Option γ} {P : α → Prop} {Q : γ → Prop} (h : pk o P) (k : ∀ a, P a → pk (f a) Q) : pk (b1 o f) Q := fun τ e => by
  obtain ⟨a, h1, h2⟩ := m_b1 e
  exact k a (h a h1) τ h2
theorem pk_b2 {α β γ : Type} {o : Option (α × β)} {f : α → β → Option γ} {P : α × β → Prop} {Q : γ → Prop} (h : pk o P) (k : ∀ a b, P (a, b) → pk (f a b) Q) : pk (b2 o f) Q := fun τ e => by
  cases o with
  | none => cases e
  | some a => exact k a.1 a.2 (h a rfl) τ e
theorem pk_bo {α γ : Type} {o : Option (Option α)} {f0 : Option γ} {f1 : α → Option γ} {Q : γ → Prop} (k0 : pk f0 Q) (k1 : ∀ a, o = some (some a) → pk (f1 a) Q) : pk (bo o f0 f1) Q := fun τ e => by
  cases o with
  | none => cases e
  | some a =>
    cases a with
    | none => exact k0 τ e
    | some a => exact k1 a rfl τ e
theorem pk_bs {γ : Type} {o : Option mS} {f : Nat → Option γ} {Q : γ → Prop} (k : ∀ n, pk (f n) Q) : pk (bs o f) Q := fun τ e => by
  unfold bs at e
  split at e
  · exact k _ τ e
  · cases e
theorem pk_b1r {σ ρ : Type} {o : Option ρ} {P : σ → Prop} {Q : ρ → Prop} (h : pk o Q) : pk (b1 o fun τ => some (Sum.inr τ)) (se P Q) := pk_b1 h fun _ hq => pk_some hq
theorem pk_b1rr {σ ρ σ' : Type} {o : Option ρ} {P : σ → Prop} {P' : σ' → Prop} {Q : ρ → Prop} (h : pk o Q) : pk (b1 o fun τ => some (Sum.inr (Sum.inr τ))) (se P (se P' Q)) := pk_b1 h fun _ hq => pk_some hq
theorem pk_whl {σ ρ : Type} {body : σ → Option (σ ⊕ ρ)} (P : σ → Prop) {Q : ρ → Prop} {v : σ} (hv : P v) (hb : ∀ v, P v → pk (body v) (se P Q)) : pk (whl body v) Q := fun τ e => by
  obtain ⟨n, hn⟩ := whl_spec.mp e
  clear e
  induction n generalizing v with
  | zero => cases hn
  | succ n ih =>
    unfold lp at hn
    split at hn
    · cases hn
    · next v' hb' => exact ih (hb v hv _ hb') hn
    · next a hb' => exact Option.some.inj hn ▸ (hb v hv _ hb' : Q _)
theorem KV_mu {i k j l : Nat} {v w : Int32} {s : mG} (h : KV i k v s) (d : i ≠ j ∨ k ≠ l) : KV i k v (mu s.1 j l w, s.2) := by
  show mu s.1 j l w i k = v
  rw [mu_cell d]; exact h
theorem isM_ne0 {k : Nat} (h : isM k) : k ≠ 0 := fun e => by
  subst e
  exact absurd h.1 (by decide)
end
end
/-! 59.v.foot -/
section
noncomputable section
/-! THE ROWS THAT A FUNCTION MAY WRITE -/
def sub (A B : Nat) : Prop := ∀ j : Nat, A.testBit j = true → B.testBit j = true
theorem sub_rfl {A : Nat} : sub A A := fun _ h => h
theorem sub_and {A B : Nat} (h : A &&& B = A) : sub A B := fun j hj => by
  have h2 : (A &&& B).testBit j = true := by rw [h]; exact hj
  rw [Nat.testBit_and, Bool.and_eq_true] at h2
  exact h2.2
theorem sub_tr {A B C : Nat} (h : A &&& B = A) (k : sub B C) : sub A C := fun j hj => k j (sub_and h j hj)
def KB (M : Nat) (z s : mG) : Prop := ∀ j : Nat, M.testBit j = false → s.1 j = z.1 j
theorem KB_rfl {M : Nat} {s : mG} : KB M s s := fun _ _ => rfl
theorem KB_mu {M : Nat} {z s : mG} {i k : Nat} {v : Int32} (h : KB M z s) (d : M.testBit i = true) : KB M z (mu s.1 i k v, s.2) := fun j hj => by
  have e : j ≠ i := fun e => by
    subst e
    rw [d] at hj
    cases hj
  exact (mu_row e : mu s.1 i k v j = s.1 j).trans (h j hj)
theorem mom_37 {s : mG} {a1 : Int32} {m : Nat} (h : F_X5_momentAt s a1 = some (some m)) : ∃ i, i < 6 ∧ m = 37 + 3 * i := by
  unfold F_X5_momentAt F_X5_momentAt_22 at h
  by_cases h1 : a1 < 0
  · rw [if_pos h1] at h; cases h
  · rw [if_neg h1] at h
    by_cases h2 : cn 6 ≤ a1
    · rw [if_pos h2] at h; cases h
    · rw [if_neg h2] at h
      by_cases h3 : a1 < 0 ∨ 6 ≤ a1.toNatClampNeg
      · rw [if_pos h3] at h; cases h
      · rw [if_neg h3] at h
        have e := Option.some.inj (Option.some.inj h)
        exact ⟨a1.toNatClampNeg, by omega, e.symm⟩
theorem mom_bit {s : mG} {a1 : Int32} {m k : Nat} (h : F_X5_momentAt s a1 = some (some m)) (hk : k < 3) : Nat.testBit 36028659580010496 (m + k) = true := by
  obtain ⟨i, hi, rfl⟩ := mom_37 h
  have : ∀ i, i < 6 → ∀ k, k < 3 → Nat.testBit 36028659580010496 (37 + 3 * i + k) = true := by decide
  exact this i hi k hk
end
end
/-! 59.v0.foot -/
section
noncomputable section
theorem W_X0_glanceAt_B2 {M : Nat} {z : mG} {x1 : Int32} {x2 : Int32} {s : mG} (hM : sub 18889465931478580854784 M) (h : KB M z s) : pk (F_X0_glanceAt_B2 x1 x2 s) (se (fun τ => KB M z τ.2.2) (fun τ => KB M z τ)) := by
  unfold F_X0_glanceAt_B2
  refine pk_ite ?_ ?_
  · exact pk_some h
  · refine pk_b1 pk_top (fun _ _ => ?_)
    refine pk_nn ?_
    extract_lets +onlyGivenNames s_1
    have h_2 : KB M z s_1 := KB_mu h (hM 74 (by decide +kernel))
    clear_value s_1
    exact pk_some h_2
theorem W_X0_glanceAt_L2 {M : Nat} {z : mG} {x1 : Int32} {x2 : Int32} {s : mG} (hM : sub 18889465931478580854784 M) (h : KB M z s) : pk (F_X0_glanceAt_L2 x1 x2 s) (fun τ => KB M z τ) := by
  unfold F_X0_glanceAt_L2
  refine pk_whl (fun v => KB M z v.2.2) h (fun v hv => ?_)
  obtain ⟨y0, y1, y2⟩ := v
  exact W_X0_glanceAt_B2 (sub_tr (by decide +kernel) hM) hv
theorem W_X0_glanceAt {M : Nat} {z : mG} {a1 : Int32} {s : mG} (hM : sub 18889465931478580854784 M) (h : KB M z s) : pk (F_X0_glanceAt a1 s) (fun τ => KB M z τ) := by
  unfold F_X0_glanceAt
  exact (W_X0_glanceAt_L2 (sub_tr (by decide +kernel) hM) h)
theorem W_X11_put {M : Nat} {z : mG} {a1 : Nat} {a2 : Int32} {a3 : Int32} {s : mG} (hM : sub 0 M) (h_a1_0 : M.testBit (a1 + 0) = true) (h : KB M z s) : pk (F_X11_put a1 a2 a3 s) (fun τ => KB M z τ) := by
  unfold F_X11_put
  refine pk_ite ?_ ?_
  · exact pk_some h
  · refine pk_b1 pk_top (fun _ _ => ?_)
    refine pk_ite ?_ ?_
    · exact pk_some h
    · refine pk_bs (fun _ => ?_)
      refine pk_nn ?_
      extract_lets +onlyGivenNames s_1
      have h_2 : KB M z s_1 := KB_mu h h_a1_0
      clear_value s_1
      exact pk_some h_2
theorem W_X3_supposeHour {M : Nat} {z : mG} {a1 : Int32} {s : mG} (hM : sub 590295810358705651712 M) (h : KB M z s) : pk (F_X3_supposeHour a1 s) (fun τ => KB M z τ) := by
  unfold F_X3_supposeHour
  refine pk_b1 (W_X11_put (sub_tr (by decide +kernel) hM) (hM 69 (by decide +kernel)) h) (fun s_1 (h_2 : KB M z s_1) => ?_)
  refine pk_b1 (W_X11_put (sub_tr (by decide +kernel) hM) (hM 69 (by decide +kernel)) h_2) (fun s_3 (h_4 : KB M z s_3) => ?_)
  exact pk_some h_4
theorem W_X3_face_107 {M : Nat} {z : mG} {x1 : Int32} {y1 : Int32} {y2 : Int32} {s : mG} (hM : sub 590295810358705651712 M) (h : KB M z s) : pk (F_X3_face_107 x1 y1 y2 s) (fun τ => KB M z τ) := by
  unfold F_X3_face_107
  refine pk_b1 (W_X11_put (sub_tr (by decide +kernel) hM) (hM 69 (by decide +kernel)) h) (fun s_1 (h_2 : KB M z s_1) => ?_)
  refine pk_b1 pk_top (fun _ _ => ?_)
  refine pk_b1 (W_X11_put (sub_tr (by decide +kernel) hM) (hM 69 (by decide +kernel)) h_2) (fun s_3 (h_4 : KB M z s_3) => ?_)
  refine pk_b1 (W_X3_supposeHour (sub_tr (by decide +kernel) hM) h_4) (fun s_5 (h_6 : KB M z s_5) => ?_)
  exact pk_some h_6
theorem W_X3_face {M : Nat} {z : mG} {a1 : Int32} {s : mG} (hM : sub 590295810358705651712 M) (h : KB M z s) : pk (F_X3_face a1 s) (fun τ => KB M z τ) := by
  unfold F_X3_face
  refine pk_b1 (W_X11_put (sub_tr (by decide +kernel) hM) (hM 69 (by decide +kernel)) h) (fun s_1 (h_2 : KB M z s_1) => ?_)
  refine pk_b1 pk_top (fun _ _ => ?_)
  refine pk_b1 (W_X11_put (sub_tr (by decide +kernel) hM) (hM 69 (by decide +kernel)) h_2) (fun s_3 (h_4 : KB M z s_3) => ?_)
  refine pk_b1 pk_top (fun _ _ => ?_)
  refine pk_b1 (W_X11_put (sub_tr (by decide +kernel) hM) (hM 69 (by decide +kernel)) h_4) (fun s_5 (h_6 : KB M z s_5) => ?_)
  refine pk_b1 (W_X11_put (sub_tr (by decide +kernel) hM) (hM 69 (by decide +kernel)) h_6) (fun s_7 (h_8 : KB M z s_7) => ?_)
  refine pk_b1 (W_X11_put (sub_tr (by decide +kernel) hM) (hM 69 (by decide +kernel)) h_8) (fun s_9 (h_10 : KB M z s_9) => ?_)
  refine pk_b1 pk_top (fun _ _ => ?_)
  refine pk_ite ?_ ?_
  · exact (W_X3_face_107 (sub_tr (by decide +kernel) hM) h_10)
  · exact (W_X3_face_107 (sub_tr (by decide +kernel) hM) h_10)
theorem W_X3_valueOf_229 {M : Nat} {z : mG} {x2 : Int32} {x3 : Int32} {x4 : Int32} {s : mG} (hM : sub 0 M) (h : KB M z s) : pk (F_X3_valueOf_229 x2 x3 x4 s) (se (fun τ => KB M z τ.2.2.2) (fun τ => KB M z τ.2)) := by
  unfold F_X3_valueOf_229
  exact pk_some h
theorem W_X3_valueOf_199 {M : Nat} {z : mG} {x2 : Int32} {x3 : Int32} {x4 : Int32} {x5 : Int32} {x7 : Int32} {s : mG} (hM : sub 1180591620717411303424 M) (h : KB M z s) : pk (F_X3_valueOf_199 x2 x3 x4 x5 x7 s) (se (fun τ => KB M z τ.2.2.2) (fun τ => KB M z τ.2)) := by
  unfold F_X3_valueOf_199
  refine pk_b1 pk_top (fun _ _ => ?_)
  refine pk_b1 pk_top (fun _ _ => ?_)
  refine pk_b1 (W_X11_put (sub_tr (by decide +kernel) hM) (hM 70 (by decide +kernel)) h) (fun s_1 (h_2 : KB M z s_1) => ?_)
  exact (W_X3_valueOf_229 (sub_tr (by decide +kernel) hM) h_2)
theorem W_X3_valueOf_176 {M : Nat} {z : mG} {x2 : Int32} {x3 : Int32} {x4 : Int32} {y1 : Int32} {y2 : Int32} {s : mG} (hM : sub 1180591620717411303424 M) (h : KB M z s) : pk (F_X3_valueOf_176 x2 x3 x4 y1 y2 s) (se (fun τ => KB M z τ.2.2.2) (fun τ => KB M z τ.2)) := by
  unfold F_X3_valueOf_176
  refine pk_b1 (W_X11_put (sub_tr (by decide +kernel) hM) (hM 70 (by decide +kernel)) h) (fun s_1 (h_2 : KB M z s_1) => ?_)
  exact (W_X3_valueOf_229 (sub_tr (by decide +kernel) hM) h_2)
theorem W_X3_valueOf_B5 {M : Nat} {z : mG} {x2 : Int32} {x3 : Int32} {x4 : Int32} {s : mG} (hM : sub 1180591620717411303424 M) (h : KB M z s) : pk (F_X3_valueOf_B5 x2 x3 x4 s) (se (fun τ => KB M z τ.2.2.2) (fun τ => KB M z τ.2)) := by
  unfold F_X3_valueOf_B5
  refine pk_ite ?_ ?_
  · refine pk_b1 pk_top (fun _ _ => ?_)
    exact pk_some h
  · refine pk_b1 pk_top (fun _ _ => ?_)
    refine pk_b1 pk_top (fun _ _ => ?_)
    refine pk_b1 pk_top (fun _ _ => ?_)
    refine pk_ite ?_ ?_
    · refine pk_b1 (W_X11_put (sub_tr (by decide +kernel) hM) (hM 70 (by decide +kernel)) h) (fun s_1 (h_2 : KB M z s_1) => ?_)
      exact (W_X3_valueOf_229 (sub_tr (by decide +kernel) hM) h_2)
    · refine pk_ite ?_ ?_
      · refine pk_b1 pk_top (fun _ _ => ?_)
        refine pk_b1 (W_X11_put (sub_tr (by decide +kernel) hM) (hM 70 (by decide +kernel)) h) (fun s_3 (h_4 : KB M z s_3) => ?_)
        exact (W_X3_valueOf_229 (sub_tr (by decide +kernel) hM) h_4)
      · refine pk_ite ?_ ?_
        · exact (W_X3_valueOf_199 (sub_tr (by decide +kernel) hM) h)
        · refine pk_ite ?_ ?_
          · exact (W_X3_valueOf_199 (sub_tr (by decide +kernel) hM) h)
          · refine pk_ite ?_ ?_
            · exact (W_X3_valueOf_199 (sub_tr (by decide +kernel) hM) h)
            · refine pk_ite ?_ ?_
              · refine pk_ite ?_ ?_
                · exact (W_X3_valueOf_176 (sub_tr (by decide +kernel) hM) h)
                · refine pk_nn ?_
                  exact (W_X3_valueOf_176 (sub_tr (by decide +kernel) hM) h)
              · refine pk_ite ?_ ?_
                · exact (W_X3_valueOf_199 (sub_tr (by decide +kernel) hM) h)
                · refine pk_ite ?_ ?_
                  · exact (W_X3_valueOf_199 (sub_tr (by decide +kernel) hM) h)
                  · refine pk_ite ?_ ?_
                    · exact (W_X3_valueOf_199 (sub_tr (by decide +kernel) hM) h)
                    · refine pk_ite ?_ ?_
                      · refine pk_b1 (W_X11_put (sub_tr (by decide +kernel) hM) (hM 70 (by decide +kernel)) h) (fun s_5 (h_6 : KB M z s_5) => ?_)
                        exact (W_X3_valueOf_229 (sub_tr (by decide +kernel) hM) h_6)
                      · exact (W_X3_valueOf_199 (sub_tr (by decide +kernel) hM) h)
theorem W_X3_valueOf_L5 {M : Nat} {z : mG} {x2 : Int32} {x3 : Int32} {x4 : Int32} {s : mG} (hM : sub 1180591620717411303424 M) (h : KB M z s) : pk (F_X3_valueOf_L5 x2 x3 x4 s) (fun τ => KB M z τ.2) := by
  unfold F_X3_valueOf_L5
  refine pk_whl (fun v => KB M z v.2.2.2) h (fun v hv => ?_)
  obtain ⟨y0, y1, y2, y3⟩ := v
  exact W_X3_valueOf_B5 (sub_tr (by decide +kernel) hM) hv
theorem W_X3_valueOf {M : Nat} {z : mG} {a1 : Int32} {a2 : Int32} {s : mG} (hM : sub 1180591620717411303424 M) (h : KB M z s) : pk (F_X3_valueOf a1 a2 s) (fun τ => KB M z τ.2) := by
  unfold F_X3_valueOf
  exact (W_X3_valueOf_L5 (sub_tr (by decide +kernel) hM) h)
theorem W_X3_tells_115 {M : Nat} {z : mG} {x1 : Int32} {x2 : Int32} {s : mG} (hM : sub 0 M) (h : KB M z s) : pk (F_X3_tells_115 x1 x2 s) (se (fun τ => KB M z τ.2.2) (fun τ => KB M z τ.2)) := by
  unfold F_X3_tells_115
  exact pk_some h
theorem W_X3_tells_87 {M : Nat} {z : mG} {x2 : Int32} {x3 : Int32} {s : mG} (hM : sub 1180591620717411303424 M) (h : KB M z s) : pk (F_X3_tells_87 x2 x3 s) (fun τ => KB M z τ.2) := by
  unfold F_X3_tells_87
  refine pk_b1 pk_top (fun _ _ => ?_)
  refine pk_b2 (W_X3_valueOf (sub_tr (by decide +kernel) hM) h) (fun _ s_1 (h_2 : KB M z s_1) => ?_)
  extract_lets +onlyGivenNames v_3
  clear_value v_3
  exact pk_some h_2
theorem W_X3_tells_64 {M : Nat} {z : mG} {x1 : Int32} {x2 : Int32} {x3 : Int32} {x4 : Int32} {y0 : Int32} {s : mG} (hM : sub 1180591620717411303424 M) (h : KB M z s) : pk (F_X3_tells_64 x1 x2 x3 x4 y0 s) (se (fun τ => KB M z τ.2.2) (fun τ => KB M z τ.2)) := by
  unfold F_X3_tells_64
  refine pk_ite ?_ ?_
  · exact (W_X3_tells_115 (sub_tr (by decide +kernel) hM) h)
  · refine pk_ite ?_ ?_
    · refine pk_b1r ?_
      exact (W_X3_tells_87 (sub_tr (by decide +kernel) hM) h)
    · refine pk_b2 (W_X3_valueOf (sub_tr (by decide +kernel) hM) h) (fun _ s_1 (h_2 : KB M z s_1) => ?_)
      refine pk_ite ?_ ?_
      · exact (W_X3_tells_115 (sub_tr (by decide +kernel) hM) h_2)
      · refine pk_b1r ?_
        exact (W_X3_tells_87 (sub_tr (by decide +kernel) hM) h_2)
theorem W_X3_tells_B2 {M : Nat} {z : mG} {x1 : Int32} {x2 : Int32} {s : mG} (hM : sub 1180591620717411303424 M) (h : KB M z s) : pk (F_X3_tells_B2 x1 x2 s) (se (fun τ => KB M z τ.2.2) (fun τ => KB M z τ.2)) := by
  unfold F_X3_tells_B2
  refine pk_ite ?_ ?_
  · refine pk_ite ?_ ?_
    · refine pk_b1 pk_top (fun _ _ => ?_)
      refine pk_ite ?_ ?_
      · exact pk_some h
      · exact pk_some h
    · refine pk_b1 pk_top (fun _ _ => ?_)
      exact pk_some h
  · refine pk_b1 pk_top (fun _ _ => ?_)
    refine pk_b1 pk_top (fun _ _ => ?_)
    refine pk_b1 pk_top (fun _ _ => ?_)
    refine pk_ite ?_ ?_
    · exact (W_X3_tells_64 (sub_tr (by decide +kernel) hM) h)
    · exact (W_X3_tells_64 (sub_tr (by decide +kernel) hM) h)
theorem W_X3_tells_L2 {M : Nat} {z : mG} {x1 : Int32} {x2 : Int32} {s : mG} (hM : sub 1180591620717411303424 M) (h : KB M z s) : pk (F_X3_tells_L2 x1 x2 s) (fun τ => KB M z τ.2) := by
  unfold F_X3_tells_L2
  refine pk_whl (fun v => KB M z v.2.2) h (fun v hv => ?_)
  obtain ⟨y0, y1, y2⟩ := v
  exact W_X3_tells_B2 (sub_tr (by decide +kernel) hM) hv
theorem W_X3_tells {M : Nat} {z : mG} {a1 : Int32} {s : mG} (hM : sub 1180591620717411303424 M) (h : KB M z s) : pk (F_X3_tells a1 s) (fun τ => KB M z τ.2) := by
  unfold F_X3_tells
  exact (W_X3_tells_L2 (sub_tr (by decide +kernel) hM) h)
theorem W_X0_sureByGlance_74 {M : Nat} {z : mG} {x3 : Int32} {y0 : Int32} {s : mG} (hM : sub 0 M) (h : KB M z s) : pk (F_X0_sureByGlance_74 x3 y0 s) (se (fun τ => KB M z τ.2.2) (fun τ => KB M z τ.2)) := by
  unfold F_X0_sureByGlance_74
  exact pk_some h
theorem W_X0_sureByGlance_71 {M : Nat} {z : mG} {x3 : Int32} {y1 : Int32} {y2 : Int32} {y3 : Int32} {s : mG} (hM : sub 0 M) (h : KB M z s) : pk (F_X0_sureByGlance_71 x3 y1 y2 y3 s) (se (fun τ => KB M z τ.2.2) (fun τ => KB M z τ.2)) := by
  unfold F_X0_sureByGlance_71
  refine pk_b1 pk_top (fun _ _ => ?_)
  exact (W_X0_sureByGlance_74 (sub_tr (by decide +kernel) hM) h)
theorem W_X0_sureByGlance_B23 {M : Nat} {z : mG} {x2 : Int32} {x3 : Int32} {s : mG} (hM : sub 0 M) (h : KB M z s) : pk (F_X0_sureByGlance_B23 x2 x3 s) (se (fun τ => KB M z τ.2.2) (fun τ => KB M z τ.2)) := by
  unfold F_X0_sureByGlance_B23
  refine pk_ite ?_ ?_
  · exact pk_some h
  · refine pk_b1 pk_top (fun _ _ => ?_)
    refine pk_ite ?_ ?_
    · exact (W_X0_sureByGlance_74 (sub_tr (by decide +kernel) hM) h)
    · refine pk_ite ?_ ?_
      · exact (W_X0_sureByGlance_71 (sub_tr (by decide +kernel) hM) h)
      · exact (W_X0_sureByGlance_71 (sub_tr (by decide +kernel) hM) h)
theorem W_X0_sureByGlance_L23 {M : Nat} {z : mG} {x2 : Int32} {x3 : Int32} {s : mG} (hM : sub 0 M) (h : KB M z s) : pk (F_X0_sureByGlance_L23 x2 x3 s) (fun τ => KB M z τ.2) := by
  unfold F_X0_sureByGlance_L23
  refine pk_whl (fun v => KB M z v.2.2) h (fun v hv => ?_)
  obtain ⟨y0, y1, y2⟩ := v
  exact W_X0_sureByGlance_B23 (sub_tr (by decide +kernel) hM) hv
theorem W_X0_sureByGlance {M : Nat} {z : mG} {a1 : Int32} {s : mG} (hM : sub 1770887431076116955136 M) (h : KB M z s) : pk (F_X0_sureByGlance a1 s) (fun τ => KB M z τ.2) := by
  unfold F_X0_sureByGlance
  refine pk_b1 (W_X3_face (sub_tr (by decide +kernel) hM) h) (fun s_1 (h_2 : KB M z s_1) => ?_)
  refine pk_b2 (W_X3_tells (sub_tr (by decide +kernel) hM) h_2) (fun _ s_3 (h_4 : KB M z s_3) => ?_)
  exact (W_X0_sureByGlance_L23 (sub_tr (by decide +kernel) hM) h_4)
theorem W_X0_sureOf {M : Nat} {z : mG} {a1 : Int32} {s : mG} (hM : sub 20660353362554697809920 M) (h : KB M z s) : pk (F_X0_sureOf a1 s) (fun τ => KB M z τ.2) := by
  unfold F_X0_sureOf
  refine pk_b1 (W_X0_glanceAt (sub_tr (by decide +kernel) hM) h) (fun s_1 (h_2 : KB M z s_1) => ?_)
  refine pk_b2 (W_X0_sureByGlance (sub_tr (by decide +kernel) hM) h_2) (fun _ s_3 (h_4 : KB M z s_3) => ?_)
  exact pk_some h_4
theorem W_X0_signAt_39 {M : Nat} {z : mG} {x5 : Int32} {s : mG} (hM : sub 0 M) (h : KB M z s) : pk (F_X0_signAt_39 x5 s) (fun τ => KB M z τ.2) := by
  unfold F_X0_signAt_39
  exact pk_some h
theorem W_X0_signAt_66 {M : Nat} {z : mG} {x1 : Int32} {x2 : Int32} {x3 : Int32} {y1 : Int32} {y2 : Int32} {s : mG} (hM : sub 18889465931478580854784 M) (h : KB M z s) : pk (F_X0_signAt_66 x1 x2 x3 y1 y2 s) (se (fun τ => KB M z τ.2.2.2) (fun τ => KB M z τ.2)) := by
  unfold F_X0_signAt_66
  refine pk_b1 (W_X11_put (sub_tr (by decide +kernel) hM) (hM 74 (by decide +kernel)) h) (fun s_1 (h_2 : KB M z s_1) => ?_)
  exact pk_some h_2
theorem W_X0_signAt_B7 {M : Nat} {z : mG} {x1 : Int32} {x2 : Int32} {x3 : Int32} {s : mG} (hM : sub 20660353362554697809920 M) (h : KB M z s) : pk (F_X0_signAt_B7 x1 x2 x3 s) (se (fun τ => KB M z τ.2.2.2) (fun τ => KB M z τ.2)) := by
  unfold F_X0_signAt_B7
  refine pk_ite ?_ ?_
  · exact pk_some h
  · refine pk_b2 (W_X0_sureByGlance (sub_tr (by decide +kernel) hM) h) (fun _ s_1 (h_2 : KB M z s_1) => ?_)
    refine pk_b1 pk_top (fun _ _ => ?_)
    refine pk_ite ?_ ?_
    · refine pk_b1r ?_
      exact (W_X0_signAt_39 (sub_tr (by decide +kernel) hM) h_2)
    · refine pk_ite ?_ ?_
      · refine pk_b1r ?_
        exact (W_X0_signAt_39 (sub_tr (by decide +kernel) hM) h_2)
      · refine pk_b1 pk_top (fun _ _ => ?_)
        refine pk_ite ?_ ?_
        · exact (W_X0_signAt_66 (sub_tr (by decide +kernel) hM) h_2)
        · exact (W_X0_signAt_66 (sub_tr (by decide +kernel) hM) h_2)
theorem W_X0_signAt_L7 {M : Nat} {z : mG} {x1 : Int32} {x2 : Int32} {x3 : Int32} {s : mG} (hM : sub 20660353362554697809920 M) (h : KB M z s) : pk (F_X0_signAt_L7 x1 x2 x3 s) (fun τ => KB M z τ.2) := by
  unfold F_X0_signAt_L7
  refine pk_whl (fun v => KB M z v.2.2.2) h (fun v hv => ?_)
  obtain ⟨y0, y1, y2, y3⟩ := v
  exact W_X0_signAt_B7 (sub_tr (by decide +kernel) hM) hv
theorem W_X0_signAt {M : Nat} {z : mG} {a1 : Int32} {a2 : Int32} {s : mG} (hM : sub 20660353362554697809920 M) (h : KB M z s) : pk (F_X0_signAt a1 a2 s) (fun τ => KB M z τ.2) := by
  unfold F_X0_signAt
  refine pk_b1 (W_X0_glanceAt (sub_tr (by decide +kernel) hM) h) (fun s_1 (h_2 : KB M z s_1) => ?_)
  exact (W_X0_signAt_L7 (sub_tr (by decide +kernel) hM) h_2)
theorem W_X0_saysIn {M : Nat} {z : mG} {a1 : Int32} {a2 : Int32} {a3 : Int32} {s : mG} (hM : sub 20660353362554697809920 M) (h : KB M z s) : pk (F_X0_saysIn a1 a2 a3 s) (fun τ => KB M z τ.2) := by
  unfold F_X0_saysIn
  refine pk_b2 (W_X0_sureOf (sub_tr (by decide +kernel) hM) h) (fun _ s_1 (h_2 : KB M z s_1) => ?_)
  refine pk_b1 pk_top (fun _ _ => ?_)
  refine pk_pp ?_
  exact pk_some h_2
theorem W_X0_saidToAll_125 {M : Nat} {z : mG} {x1 : Int32} {x2 : Int32} {x4 : Int32} {y0 : Int32} {y1 : Int32} {s : mG} (hM : sub 0 M) (h : KB M z s) : pk (F_X0_saidToAll_125 x1 x2 x4 y0 y1 s) (se (fun τ => KB M z τ.2.2.2.2) (fun τ => KB M z τ.2)) := by
  unfold F_X0_saidToAll_125
  exact pk_some h
theorem W_X0_saidToAll_97 {M : Nat} {z : mG} {x1 : Int32} {x3 : Int32} {x4 : Int32} {x5 : Int32} {x6 : Int32} {x7 : Int32} {x8 : Int32} {y0 : Int32} {y1 : Int32} {s : mG} (hM : sub 0 M) (h : KB M z s) : pk (F_X0_saidToAll_97 x1 x3 x4 x5 x6 x7 x8 y0 y1 s) (se (fun τ => KB M z τ.2.2.2.2) (fun τ => KB M z τ.2)) := by
  unfold F_X0_saidToAll_97
  refine pk_ite ?_ ?_
  · refine pk_b1 pk_top (fun _ _ => ?_)
    exact (W_X0_saidToAll_125 (sub_tr (by decide +kernel) hM) h)
  · refine pk_b1 pk_top (fun _ _ => ?_)
    exact (W_X0_saidToAll_125 (sub_tr (by decide +kernel) hM) h)
theorem W_X0_saidToAll_B7 {M : Nat} {z : mG} {x1 : Int32} {x2 : Int32} {x3 : Int32} {x4 : Int32} {s : mG} (hM : sub 20660353362554697809920 M) (h : KB M z s) : pk (F_X0_saidToAll_B7 x1 x2 x3 x4 s) (se (fun τ => KB M z τ.2.2.2.2) (fun τ => KB M z τ.2)) := by
  unfold F_X0_saidToAll_B7
  refine pk_ite ?_ ?_
  · refine pk_ite ?_ ?_
    · exact pk_some h
    · exact pk_some h
  · refine pk_b1 pk_top (fun _ _ => ?_)
    refine pk_b2 (W_X0_sureOf (sub_tr (by decide +kernel) hM) h) (fun _ s_1 (h_2 : KB M z s_1) => ?_)
    refine pk_b1 pk_top (fun _ _ => ?_)
    refine pk_b1 pk_top (fun _ _ => ?_)
    refine pk_b1 pk_top (fun _ _ => ?_)
    refine pk_ite ?_ ?_
    · exact (W_X0_saidToAll_97 (sub_tr (by decide +kernel) hM) h_2)
    · exact (W_X0_saidToAll_97 (sub_tr (by decide +kernel) hM) h_2)
theorem W_X0_saidToAll_L7 {M : Nat} {z : mG} {x1 : Int32} {x2 : Int32} {x3 : Int32} {x4 : Int32} {s : mG} (hM : sub 20660353362554697809920 M) (h : KB M z s) : pk (F_X0_saidToAll_L7 x1 x2 x3 x4 s) (fun τ => KB M z τ.2) := by
  unfold F_X0_saidToAll_L7
  refine pk_whl (fun v => KB M z v.2.2.2.2) h (fun v hv => ?_)
  obtain ⟨y0, y1, y2, y3, y4⟩ := v
  exact W_X0_saidToAll_B7 (sub_tr (by decide +kernel) hM) hv
theorem W_X0_saidToAll {M : Nat} {z : mG} {a1 : Int32} {s : mG} (hM : sub 20660353362554697809920 M) (h : KB M z s) : pk (F_X0_saidToAll a1 s) (fun τ => KB M z τ.2) := by
  unfold F_X0_saidToAll
  exact (W_X0_saidToAll_L7 (sub_tr (by decide +kernel) hM) h)
theorem W_X0_weighAll_B2 {M : Nat} {z : mG} {x1 : Int32} {s : mG} (hM : sub 96218217088469021229056 M) (h : KB M z s) : pk (F_X0_weighAll_B2 x1 s) (se (fun τ => KB M z τ.2) (fun τ => KB M z τ)) := by
  unfold F_X0_weighAll_B2
  refine pk_ite ?_ ?_
  · exact pk_some h
  · refine pk_b1 (W_X0_glanceAt (sub_tr (by decide +kernel) hM) h) (fun s_1 (h_2 : KB M z s_1) => ?_)
    refine pk_b2 (W_X0_sureByGlance (sub_tr (by decide +kernel) hM) h_2) (fun _ s_3 (h_4 : KB M z s_3) => ?_)
    refine pk_b1 (W_X11_put (sub_tr (by decide +kernel) hM) (hM 76 (by decide +kernel)) h_4) (fun s_5 (h_6 : KB M z s_5) => ?_)
    exact pk_some h_6
theorem W_X0_weighAll_L2 {M : Nat} {z : mG} {x1 : Int32} {s : mG} (hM : sub 96218217088469021229056 M) (h : KB M z s) : pk (F_X0_weighAll_L2 x1 s) (fun τ => KB M z τ) := by
  unfold F_X0_weighAll_L2
  refine pk_whl (fun v => KB M z v.2) h (fun v hv => ?_)
  obtain ⟨y0, y1⟩ := v
  exact W_X0_weighAll_B2 (sub_tr (by decide +kernel) hM) hv
theorem W_X0_weighAll {M : Nat} {z : mG} {s : mG} (hM : sub 96218217088469021229056 M) (h : KB M z s) : pk (F_X0_weighAll s) (fun τ => KB M z τ) := by
  unfold F_X0_weighAll
  exact (W_X0_weighAll_L2 (sub_tr (by decide +kernel) hM) h)
theorem W_X0_sumOfSure_B8 {M : Nat} {z : mG} {x1 : Int32} {x2 : Int32} {s : mG} (hM : sub 0 M) (h : KB M z s) : pk (F_X0_sumOfSure_B8 x1 x2 s) (se (fun τ => KB M z τ.2.2) (fun τ => KB M z τ.2)) := by
  unfold F_X0_sumOfSure_B8
  refine pk_ite ?_ ?_
  · exact pk_some h
  · refine pk_b1 pk_top (fun _ _ => ?_)
    exact pk_some h
theorem W_X0_sumOfSure_L8 {M : Nat} {z : mG} {x1 : Int32} {x2 : Int32} {s : mG} (hM : sub 0 M) (h : KB M z s) : pk (F_X0_sumOfSure_L8 x1 x2 s) (fun τ => KB M z τ.2) := by
  unfold F_X0_sumOfSure_L8
  refine pk_whl (fun v => KB M z v.2.2) h (fun v hv => ?_)
  obtain ⟨y0, y1, y2⟩ := v
  exact W_X0_sumOfSure_B8 (sub_tr (by decide +kernel) hM) hv
theorem W_X0_sumOfSure {M : Nat} {z : mG} {s : mG} (hM : sub 96218217088469021229056 M) (h : KB M z s) : pk (F_X0_sumOfSure s) (fun τ => KB M z τ.2) := by
  unfold F_X0_sumOfSure
  refine pk_b1 (W_X0_weighAll (sub_tr (by decide +kernel) hM) h) (fun s_1 (h_2 : KB M z s_1) => ?_)
  exact (W_X0_sumOfSure_L8 (sub_tr (by decide +kernel) hM) h_2)
theorem W_X0_countChance_B8 {M : Nat} {z : mG} {x1 : Int32} {x2 : Int32} {s : mG} (hM : sub 37778931862957161709568 M) (h : KB M z s) : pk (F_X0_countChance_B8 x1 x2 s) (se (fun τ => KB M z τ.2.2) (fun τ => KB M z τ)) := by
  unfold F_X0_countChance_B8
  refine pk_ite ?_ ?_
  · exact pk_some h
  · refine pk_b1 pk_top (fun _ _ => ?_)
    refine pk_b1 pk_top (fun _ _ => ?_)
    refine pk_b1 pk_top (fun _ _ => ?_)
    refine pk_b1 pk_top (fun _ _ => ?_)
    refine pk_b1 (W_X11_put (sub_tr (by decide +kernel) hM) (hM 75 (by decide +kernel)) h) (fun s_1 (h_2 : KB M z s_1) => ?_)
    exact pk_some h_2
theorem W_X0_countChance_L8 {M : Nat} {z : mG} {x1 : Int32} {x2 : Int32} {s : mG} (hM : sub 37778931862957161709568 M) (h : KB M z s) : pk (F_X0_countChance_L8 x1 x2 s) (fun τ => KB M z τ) := by
  unfold F_X0_countChance_L8
  refine pk_whl (fun v => KB M z v.2.2) h (fun v hv => ?_)
  obtain ⟨y0, y1, y2⟩ := v
  exact W_X0_countChance_B8 (sub_tr (by decide +kernel) hM) hv
theorem W_X0_countChance {M : Nat} {z : mG} {a1 : Int32} {s : mG} (hM : sub 37778931862957161709568 M) (h : KB M z s) : pk (F_X0_countChance a1 s) (fun τ => KB M z τ) := by
  unfold F_X0_countChance
  exact (W_X0_countChance_L8 (sub_tr (by decide +kernel) hM) h)
theorem W_X0_countChances_70 {M : Nat} {z : mG} {x1 : Int32} {x2 : Int32} {s : mG} (hM : sub 0 M) (h : KB M z s) : pk (F_X0_countChances_70 x1 x2 s) (se (fun τ => KB M z τ.2.2) (fun τ => KB M z τ)) := by
  unfold F_X0_countChances_70
  exact pk_some h
theorem W_X0_countChances_B39 {M : Nat} {z : mG} {x1 : Int32} {x2 : Int32} {s : mG} (hM : sub 37778931862957161709568 M) (h : KB M z s) : pk (F_X0_countChances_B39 x1 x2 s) (se (fun τ => KB M z τ.2.2) (fun τ => KB M z τ)) := by
  unfold F_X0_countChances_B39
  refine pk_ite ?_ ?_
  · exact pk_some h
  · refine pk_ite ?_ ?_
    · exact (W_X0_countChances_70 (sub_tr (by decide +kernel) hM) h)
    · refine pk_b1 pk_top (fun _ _ => ?_)
      refine pk_b1 (W_X0_countChance (sub_tr (by decide +kernel) hM) h) (fun s_1 (h_2 : KB M z s_1) => ?_)
      exact (W_X0_countChances_70 (sub_tr (by decide +kernel) hM) h_2)
theorem W_X0_countChances_L39 {M : Nat} {z : mG} {x1 : Int32} {x2 : Int32} {s : mG} (hM : sub 37778931862957161709568 M) (h : KB M z s) : pk (F_X0_countChances_L39 x1 x2 s) (fun τ => KB M z τ) := by
  unfold F_X0_countChances_L39
  refine pk_whl (fun v => KB M z v.2.2) h (fun v hv => ?_)
  obtain ⟨y0, y1, y2⟩ := v
  exact W_X0_countChances_B39 (sub_tr (by decide +kernel) hM) hv
theorem W_X0_countChances_30 {M : Nat} {z : mG} {x1 : Int32} {x2 : Int32} {y1 : Int32} {y2 : Int32} {s : mG} (hM : sub 37778931862957161709568 M) (h : KB M z s) : pk (F_X0_countChances_30 x1 x2 y1 y2 s) (se (fun τ => KB M z τ.2.2) (fun τ => KB M z τ)) := by
  unfold F_X0_countChances_30
  refine pk_nn ?_
  extract_lets +onlyGivenNames s_1
  have h_2 : KB M z s_1 := KB_mu h (hM 75 (by decide +kernel))
  clear_value s_1
  exact pk_some h_2
theorem W_X0_countChances_B6 {M : Nat} {z : mG} {x1 : Int32} {x2 : Int32} {s : mG} (hM : sub 37778931862957161709568 M) (h : KB M z s) : pk (F_X0_countChances_B6 x1 x2 s) (se (fun τ => KB M z τ.2.2) (fun τ => KB M z τ)) := by
  unfold F_X0_countChances_B6
  refine pk_ite ?_ ?_
  · refine pk_b1r ?_
    exact (W_X0_countChances_L39 (sub_tr (by decide +kernel) hM) h)
  · refine pk_ite ?_ ?_
    · exact (W_X0_countChances_30 (sub_tr (by decide +kernel) hM) h)
    · exact (W_X0_countChances_30 (sub_tr (by decide +kernel) hM) h)
theorem W_X0_countChances_L6 {M : Nat} {z : mG} {x1 : Int32} {x2 : Int32} {s : mG} (hM : sub 37778931862957161709568 M) (h : KB M z s) : pk (F_X0_countChances_L6 x1 x2 s) (fun τ => KB M z τ) := by
  unfold F_X0_countChances_L6
  refine pk_whl (fun v => KB M z v.2.2) h (fun v hv => ?_)
  obtain ⟨y0, y1, y2⟩ := v
  exact W_X0_countChances_B6 (sub_tr (by decide +kernel) hM) hv
theorem W_X0_countChances {M : Nat} {z : mG} {a1 : Int32} {s : mG} (hM : sub 133997148951426182938624 M) (h : KB M z s) : pk (F_X0_countChances a1 s) (fun τ => KB M z τ) := by
  unfold F_X0_countChances
  refine pk_b1 (W_X0_weighAll (sub_tr (by decide +kernel) hM) h) (fun s_1 (h_2 : KB M z s_1) => ?_)
  exact (W_X0_countChances_L6 (sub_tr (by decide +kernel) hM) h_2)
theorem W_X0_likeliest_47 {M : Nat} {z : mG} {x1 : Int32} {x3 : Int32} {y0 : Int32} {s : mG} (hM : sub 0 M) (h : KB M z s) : pk (F_X0_likeliest_47 x1 x3 y0 s) (se (fun τ => KB M z τ.2.2.2) (fun τ => KB M z τ.2)) := by
  unfold F_X0_likeliest_47
  exact pk_some h
theorem W_X0_likeliest_B9 {M : Nat} {z : mG} {x1 : Int32} {x2 : Int32} {x3 : Int32} {s : mG} (hM : sub 0 M) (h : KB M z s) : pk (F_X0_likeliest_B9 x1 x2 x3 s) (se (fun τ => KB M z τ.2.2.2) (fun τ => KB M z τ.2)) := by
  unfold F_X0_likeliest_B9
  refine pk_ite ?_ ?_
  · refine pk_ite ?_ ?_
    · exact pk_some h
    · refine pk_b1 pk_top (fun _ _ => ?_)
      exact pk_some h
  · refine pk_b1 pk_top (fun _ _ => ?_)
    refine pk_b1 pk_top (fun _ _ => ?_)
    refine pk_ite ?_ ?_
    · exact (W_X0_likeliest_47 (sub_tr (by decide +kernel) hM) h)
    · exact (W_X0_likeliest_47 (sub_tr (by decide +kernel) hM) h)
theorem W_X0_likeliest_L9 {M : Nat} {z : mG} {x1 : Int32} {x2 : Int32} {x3 : Int32} {s : mG} (hM : sub 0 M) (h : KB M z s) : pk (F_X0_likeliest_L9 x1 x2 x3 s) (fun τ => KB M z τ.2) := by
  unfold F_X0_likeliest_L9
  refine pk_whl (fun v => KB M z v.2.2.2) h (fun v hv => ?_)
  obtain ⟨y0, y1, y2, y3⟩ := v
  exact W_X0_likeliest_B9 (sub_tr (by decide +kernel) hM) hv
theorem W_X0_likeliest {M : Nat} {z : mG} {a1 : Int32} {s : mG} (hM : sub 133997148951426182938624 M) (h : KB M z s) : pk (F_X0_likeliest a1 s) (fun τ => KB M z τ.2) := by
  unfold F_X0_likeliest
  refine pk_b1 (W_X0_countChances (sub_tr (by decide +kernel) hM) h) (fun s_1 (h_2 : KB M z s_1) => ?_)
  exact (W_X0_likeliest_L9 (sub_tr (by decide +kernel) hM) h_2)
theorem W_X0_spanEdge_B28 {M : Nat} {z : mG} {x1 : Int32} {x2 : Int32} {x3 : Int32} {x4 : Int32} {x5 : Int32} {s : mG} (hM : sub 0 M) (h : KB M z s) : pk (F_X0_spanEdge_B28 x1 x2 x3 x4 x5 s) (se (fun τ => KB M z τ.2.2.2.2.2) (se (fun τ => KB M z τ.2.2.2.2) (fun τ => KB M z τ.2))) := by
  unfold F_X0_spanEdge_B28
  refine pk_ite ?_ ?_
  · exact pk_some h
  · refine pk_b1 pk_top (fun _ _ => ?_)
    refine pk_ite ?_ ?_
    · exact pk_some h
    · refine pk_ite ?_ ?_
      · exact pk_some h
      · exact pk_some h
theorem W_X0_spanEdge_L28 {M : Nat} {z : mG} {x1 : Int32} {x2 : Int32} {x3 : Int32} {x4 : Int32} {x5 : Int32} {s : mG} (hM : sub 0 M) (h : KB M z s) : pk (F_X0_spanEdge_L28 x1 x2 x3 x4 x5 s) (se (fun τ => KB M z τ.2.2.2.2) (fun τ => KB M z τ.2)) := by
  unfold F_X0_spanEdge_L28
  refine pk_whl (fun v => KB M z v.2.2.2.2.2) h (fun v hv => ?_)
  obtain ⟨y0, y1, y2, y3, y4, y5⟩ := v
  exact W_X0_spanEdge_B28 (sub_tr (by decide +kernel) hM) hv
theorem W_X0_spanEdge_B19 {M : Nat} {z : mG} {x1 : Int32} {x2 : Int32} {x3 : Int32} {x4 : Int32} {s : mG} (hM : sub 0 M) (h : KB M z s) : pk (F_X0_spanEdge_B19 x1 x2 x3 x4 s) (se (fun τ => KB M z τ.2.2.2.2) (fun τ => KB M z τ.2)) := by
  unfold F_X0_spanEdge_B19
  refine pk_ite ?_ ?_
  · exact pk_some h
  · exact (W_X0_spanEdge_L28 (sub_tr (by decide +kernel) hM) h)
theorem W_X0_spanEdge_L19 {M : Nat} {z : mG} {x1 : Int32} {x2 : Int32} {x3 : Int32} {x4 : Int32} {s : mG} (hM : sub 0 M) (h : KB M z s) : pk (F_X0_spanEdge_L19 x1 x2 x3 x4 s) (fun τ => KB M z τ.2) := by
  unfold F_X0_spanEdge_L19
  refine pk_whl (fun v => KB M z v.2.2.2.2) h (fun v hv => ?_)
  obtain ⟨y0, y1, y2, y3, y4⟩ := v
  exact W_X0_spanEdge_B19 (sub_tr (by decide +kernel) hM) hv
theorem W_X0_spanEdge {M : Nat} {z : mG} {a1 : Int32} {a2 : Int32} {s : mG} (hM : sub 133997148951426182938624 M) (h : KB M z s) : pk (F_X0_spanEdge a1 a2 s) (fun τ => KB M z τ.2) := by
  unfold F_X0_spanEdge
  refine pk_b1 (W_X0_countChances (sub_tr (by decide +kernel) hM) h) (fun s_1 (h_2 : KB M z s_1) => ?_)
  exact (W_X0_spanEdge_L19 (sub_tr (by decide +kernel) hM) h_2)
theorem W_X0_amongCounted {M : Nat} {z : mG} {a1 : Int32} {a2 : Int32} {s : mG} (hM : sub 133997148951426182938624 M) (h : KB M z s) : pk (F_X0_amongCounted a1 a2 s) (fun τ => KB M z τ.2) := by
  unfold F_X0_amongCounted
  refine pk_b1 (W_X0_countChances (sub_tr (by decide +kernel) hM) h) (fun s_1 (h_2 : KB M z s_1) => ?_)
  refine pk_b1 pk_top (fun _ _ => ?_)
  refine pk_b1 pk_top (fun _ _ => ?_)
  extract_lets +onlyGivenNames v_3
  clear_value v_3
  refine pk_b1 pk_top (fun _ _ => ?_)
  extract_lets +onlyGivenNames v_4
  clear_value v_4
  refine pk_ite ?_ ?_
  · exact pk_some h_2
  · refine pk_nn ?_
    extract_lets +onlyGivenNames v_5
    clear_value v_5
    exact pk_some h_2
theorem W_X0_emptyChance_55 {M : Nat} {z : mG} {x1 : Int32} {x2 : Int32} {x3 : Int32} {s : mG} (hM : sub 0 M) (h : KB M z s) : pk (F_X0_emptyChance_55 x1 x2 x3 s) (se (fun τ => KB M z τ.2.2.2) (fun τ => KB M z τ.2)) := by
  unfold F_X0_emptyChance_55
  exact pk_some h
theorem W_X0_emptyChance_B9 {M : Nat} {z : mG} {x1 : Int32} {x2 : Int32} {x3 : Int32} {s : mG} (hM : sub 0 M) (h : KB M z s) : pk (F_X0_emptyChance_B9 x1 x2 x3 s) (se (fun τ => KB M z τ.2.2.2) (fun τ => KB M z τ.2)) := by
  unfold F_X0_emptyChance_B9
  refine pk_ite ?_ ?_
  · exact pk_some h
  · refine pk_b1 pk_top (fun _ _ => ?_)
    refine pk_ite ?_ ?_
    · refine pk_b1 pk_top (fun _ _ => ?_)
      refine pk_b1 pk_top (fun _ _ => ?_)
      exact (W_X0_emptyChance_55 (sub_tr (by decide +kernel) hM) h)
    · exact (W_X0_emptyChance_55 (sub_tr (by decide +kernel) hM) h)
theorem W_X0_emptyChance_L9 {M : Nat} {z : mG} {x1 : Int32} {x2 : Int32} {x3 : Int32} {s : mG} (hM : sub 0 M) (h : KB M z s) : pk (F_X0_emptyChance_L9 x1 x2 x3 s) (fun τ => KB M z τ.2) := by
  unfold F_X0_emptyChance_L9
  refine pk_whl (fun v => KB M z v.2.2.2) h (fun v hv => ?_)
  obtain ⟨y0, y1, y2, y3⟩ := v
  exact W_X0_emptyChance_B9 (sub_tr (by decide +kernel) hM) hv
theorem W_X0_emptyChance {M : Nat} {z : mG} {a1 : Int32} {s : mG} (hM : sub 96218217088469021229056 M) (h : KB M z s) : pk (F_X0_emptyChance a1 s) (fun τ => KB M z τ.2) := by
  unfold F_X0_emptyChance
  refine pk_b1 (W_X0_weighAll (sub_tr (by decide +kernel) hM) h) (fun s_1 (h_2 : KB M z s_1) => ?_)
  exact (W_X0_emptyChance_L9 (sub_tr (by decide +kernel) hM) h_2)
theorem W_X0_bestPair_90 {M : Nat} {z : mG} {x1 : Int32} {x2 : Int32} {x3 : Int32} {x4 : Int32} {x5 : Int32} {x6 : Int32} {s : mG} (hM : sub 0 M) (h : KB M z s) : pk (F_X0_bestPair_90 x1 x2 x3 x4 x5 x6 s) (se (fun τ => KB M z τ.2.2.2.2.2.2) (se (fun τ => KB M z τ.2.2.2.2.2) (fun τ => KB M z τ.2))) := by
  unfold F_X0_bestPair_90
  exact pk_some h
theorem W_X0_bestPair_B35 {M : Nat} {z : mG} {x1 : Int32} {x2 : Int32} {x3 : Int32} {x4 : Int32} {x5 : Int32} {x6 : Int32} {s : mG} (hM : sub 0 M) (h : KB M z s) : pk (F_X0_bestPair_B35 x1 x2 x3 x4 x5 x6 s) (se (fun τ => KB M z τ.2.2.2.2.2.2) (se (fun τ => KB M z τ.2.2.2.2.2) (fun τ => KB M z τ.2))) := by
  unfold F_X0_bestPair_B35
  refine pk_ite ?_ ?_
  · exact pk_some h
  · refine pk_b1 pk_top (fun _ _ => ?_)
    refine pk_b1 pk_top (fun _ _ => ?_)
    refine pk_b1 pk_top (fun _ _ => ?_)
    refine pk_ite ?_ ?_
    · exact (W_X0_bestPair_90 (sub_tr (by decide +kernel) hM) h)
    · exact (W_X0_bestPair_90 (sub_tr (by decide +kernel) hM) h)
theorem W_X0_bestPair_L35 {M : Nat} {z : mG} {x1 : Int32} {x2 : Int32} {x3 : Int32} {x4 : Int32} {x5 : Int32} {x6 : Int32} {s : mG} (hM : sub 0 M) (h : KB M z s) : pk (F_X0_bestPair_L35 x1 x2 x3 x4 x5 x6 s) (se (fun τ => KB M z τ.2.2.2.2.2) (fun τ => KB M z τ.2)) := by
  unfold F_X0_bestPair_L35
  refine pk_whl (fun v => KB M z v.2.2.2.2.2.2) h (fun v hv => ?_)
  obtain ⟨y0, y1, y2, y3, y4, y5, y6⟩ := v
  exact W_X0_bestPair_B35 (sub_tr (by decide +kernel) hM) hv
theorem W_X0_bestPair_B14 {M : Nat} {z : mG} {x1 : Int32} {x2 : Int32} {x3 : Int32} {x4 : Int32} {x5 : Int32} {s : mG} (hM : sub 0 M) (h : KB M z s) : pk (F_X0_bestPair_B14 x1 x2 x3 x4 x5 s) (se (fun τ => KB M z τ.2.2.2.2.2) (fun τ => KB M z τ.2)) := by
  unfold F_X0_bestPair_B14
  refine pk_ite ?_ ?_
  · refine pk_ite ?_ ?_
    · exact pk_some h
    · refine pk_ite ?_ ?_
      · exact pk_some h
      · exact pk_some h
  · exact (W_X0_bestPair_L35 (sub_tr (by decide +kernel) hM) h)
theorem W_X0_bestPair_L14 {M : Nat} {z : mG} {x1 : Int32} {x2 : Int32} {x3 : Int32} {x4 : Int32} {x5 : Int32} {s : mG} (hM : sub 0 M) (h : KB M z s) : pk (F_X0_bestPair_L14 x1 x2 x3 x4 x5 s) (fun τ => KB M z τ.2) := by
  unfold F_X0_bestPair_L14
  refine pk_whl (fun v => KB M z v.2.2.2.2.2) h (fun v hv => ?_)
  obtain ⟨y0, y1, y2, y3, y4, y5⟩ := v
  exact W_X0_bestPair_B14 (sub_tr (by decide +kernel) hM) hv
theorem W_X0_bestPair {M : Nat} {z : mG} {a1 : Int32} {s : mG} (hM : sub 96218217088469021229056 M) (h : KB M z s) : pk (F_X0_bestPair a1 s) (fun τ => KB M z τ.2) := by
  unfold F_X0_bestPair
  refine pk_b1 (W_X0_weighAll (sub_tr (by decide +kernel) hM) h) (fun s_1 (h_2 : KB M z s_1) => ?_)
  exact (W_X0_bestPair_L14 (sub_tr (by decide +kernel) hM) h_2)
theorem W_X0_keylessOut_52 {M : Nat} {z : mG} {x1 : Int32} {x2 : Int32} {s : mG} (hM : sub 0 M) (h : KB M z s) : pk (F_X0_keylessOut_52 x1 x2 s) (se (fun τ => KB M z τ.2.2) (fun τ => KB M z τ.2)) := by
  unfold F_X0_keylessOut_52
  exact pk_some h
theorem W_X0_keylessOut_B8 {M : Nat} {z : mG} {x1 : Int32} {x2 : Int32} {s : mG} (hM : sub 0 M) (h : KB M z s) : pk (F_X0_keylessOut_B8 x1 x2 s) (se (fun τ => KB M z τ.2.2) (fun τ => KB M z τ.2)) := by
  unfold F_X0_keylessOut_B8
  refine pk_ite ?_ ?_
  · exact pk_some h
  · refine pk_b1 pk_top (fun _ _ => ?_)
    refine pk_ite ?_ ?_
    · refine pk_b1 pk_top (fun _ _ => ?_)
      extract_lets +onlyGivenNames v_1
      clear_value v_1
      exact (W_X0_keylessOut_52 (sub_tr (by decide +kernel) hM) h)
    · exact (W_X0_keylessOut_52 (sub_tr (by decide +kernel) hM) h)
theorem W_X0_keylessOut_L8 {M : Nat} {z : mG} {x1 : Int32} {x2 : Int32} {s : mG} (hM : sub 0 M) (h : KB M z s) : pk (F_X0_keylessOut_L8 x1 x2 s) (fun τ => KB M z τ.2) := by
  unfold F_X0_keylessOut_L8
  refine pk_whl (fun v => KB M z v.2.2) h (fun v hv => ?_)
  obtain ⟨y0, y1, y2⟩ := v
  exact W_X0_keylessOut_B8 (sub_tr (by decide +kernel) hM) hv
theorem W_X0_keylessOut {M : Nat} {z : mG} {s : mG} (hM : sub 96218217088469021229056 M) (h : KB M z s) : pk (F_X0_keylessOut s) (fun τ => KB M z τ.2) := by
  unfold F_X0_keylessOut
  refine pk_b1 (W_X0_weighAll (sub_tr (by decide +kernel) hM) h) (fun s_1 (h_2 : KB M z s_1) => ?_)
  exact (W_X0_keylessOut_L8 (sub_tr (by decide +kernel) hM) h_2)
theorem W_X1_bestVisit_108 {M : Nat} {z : mG} {x3 : Int32} {x4 : Int32} {x5 : Int32} {x6 : Int32} {x7 : Int32} {s : mG} (hM : sub 0 M) (h : KB M z s) : pk (F_X1_bestVisit_108 x3 x4 x5 x6 x7 s) (se (fun τ => KB M z τ.2.2.2.2.2) (fun τ => KB M z τ.2)) := by
  unfold F_X1_bestVisit_108
  exact pk_some h
theorem W_X1_bestVisit_B20 {M : Nat} {z : mG} {x3 : Int32} {x4 : Int32} {x5 : Int32} {x6 : Int32} {x7 : Int32} {s : mG} (hM : sub 1770887431076116955136 M) (h : KB M z s) : pk (F_X1_bestVisit_B20 x3 x4 x5 x6 x7 s) (se (fun τ => KB M z τ.2.2.2.2.2) (fun τ => KB M z τ.2)) := by
  unfold F_X1_bestVisit_B20
  refine pk_ite ?_ ?_
  · refine pk_ite ?_ ?_
    · exact pk_some h
    · exact pk_some h
  · refine pk_b1 (W_X3_supposeHour (sub_tr (by decide +kernel) hM) h) (fun s_1 (h_2 : KB M z s_1) => ?_)
    refine pk_b2 (W_X3_tells (sub_tr (by decide +kernel) hM) h_2) (fun _ s_3 (h_4 : KB M z s_3) => ?_)
    extract_lets +onlyGivenNames v_5
    clear_value v_5
    refine pk_b2 (W_X3_tells (sub_tr (by decide +kernel) hM) h_4) (fun _ s_6 (h_7 : KB M z s_6) => ?_)
    extract_lets +onlyGivenNames v_8
    clear_value v_8
    refine pk_ite ?_ ?_
    · exact (W_X1_bestVisit_108 (sub_tr (by decide +kernel) hM) h_7)
    · exact (W_X1_bestVisit_108 (sub_tr (by decide +kernel) hM) h_7)
theorem W_X1_bestVisit_L20 {M : Nat} {z : mG} {x3 : Int32} {x4 : Int32} {x5 : Int32} {x6 : Int32} {x7 : Int32} {s : mG} (hM : sub 1770887431076116955136 M) (h : KB M z s) : pk (F_X1_bestVisit_L20 x3 x4 x5 x6 x7 s) (fun τ => KB M z τ.2) := by
  unfold F_X1_bestVisit_L20
  refine pk_whl (fun v => KB M z v.2.2.2.2.2) h (fun v hv => ?_)
  obtain ⟨y0, y1, y2, y3, y4, y5⟩ := v
  exact W_X1_bestVisit_B20 (sub_tr (by decide +kernel) hM) hv
theorem W_X1_bestVisit {M : Nat} {z : mG} {a1 : Int32} {a2 : Int32} {a3 : Int32} {s : mG} (hM : sub 1770887431076116955136 M) (h : KB M z s) : pk (F_X1_bestVisit a1 a2 a3 s) (fun τ => KB M z τ.2) := by
  unfold F_X1_bestVisit
  refine pk_b1 (W_X3_face (sub_tr (by decide +kernel) hM) h) (fun s_1 (h_2 : KB M z s_1) => ?_)
  exact (W_X1_bestVisit_L20 (sub_tr (by decide +kernel) hM) h_2)
theorem W_X3_suppose {M : Nat} {z : mG} {a1 : Int32} {a2 : Int32} {s : mG} (hM : sub 590295810358705651712 M) (h : KB M z s) : pk (F_X3_suppose a1 a2 s) (fun τ => KB M z τ) := by
  unfold F_X3_suppose
  refine pk_b1 (W_X11_put (sub_tr (by decide +kernel) hM) (hM 69 (by decide +kernel)) h) (fun s_1 (h_2 : KB M z s_1) => ?_)
  exact pk_some h_2
theorem W_X1_stillOut_B14 {M : Nat} {z : mG} {x1 : Int32} {x2 : Int32} {x3 : Int32} {x4 : Int32} {s : mG} (hM : sub 1770887431076116955136 M) (h : KB M z s) : pk (F_X1_stillOut_B14 x1 x2 x3 x4 s) (se (fun τ => KB M z τ.2.2.2.2) (fun τ => KB M z τ.2)) := by
  unfold F_X1_stillOut_B14
  refine pk_ite ?_ ?_
  · exact pk_some h
  · refine pk_b1 (W_X3_supposeHour (sub_tr (by decide +kernel) hM) h) (fun s_1 (h_2 : KB M z s_1) => ?_)
    refine pk_b1 pk_top (fun _ _ => ?_)
    refine pk_b1 (W_X3_suppose (sub_tr (by decide +kernel) hM) h_2) (fun s_3 (h_4 : KB M z s_3) => ?_)
    refine pk_b2 (W_X3_tells (sub_tr (by decide +kernel) hM) h_4) (fun _ s_5 (h_6 : KB M z s_5) => ?_)
    extract_lets +onlyGivenNames v_7
    clear_value v_7
    exact pk_some h_6
theorem W_X1_stillOut_L14 {M : Nat} {z : mG} {x1 : Int32} {x2 : Int32} {x3 : Int32} {x4 : Int32} {s : mG} (hM : sub 1770887431076116955136 M) (h : KB M z s) : pk (F_X1_stillOut_L14 x1 x2 x3 x4 s) (fun τ => KB M z τ.2) := by
  unfold F_X1_stillOut_L14
  refine pk_whl (fun v => KB M z v.2.2.2.2) h (fun v hv => ?_)
  obtain ⟨y0, y1, y2, y3, y4⟩ := v
  exact W_X1_stillOut_B14 (sub_tr (by decide +kernel) hM) hv
theorem W_X1_stillOut {M : Nat} {z : mG} {a1 : Int32} {a2 : Int32} {s : mG} (hM : sub 1770887431076116955136 M) (h : KB M z s) : pk (F_X1_stillOut a1 a2 s) (fun τ => KB M z τ.2) := by
  unfold F_X1_stillOut
  refine pk_b1 (W_X3_face (sub_tr (by decide +kernel) hM) h) (fun s_1 (h_2 : KB M z s_1) => ?_)
  exact (W_X1_stillOut_L14 (sub_tr (by decide +kernel) hM) h_2)
theorem W_X1_movesAt_56 {M : Nat} {z : mG} {x1 : Int32} {x3 : Int32} {y0 : Int32} {y2 : Int32} {s : mG} (hM : sub 1180591620717411303424 M) (h : KB M z s) : pk (F_X1_movesAt_56 x1 x3 y0 y2 s) (se (fun τ => KB M z τ.2.2.2) (fun τ => KB M z τ.2)) := by
  unfold F_X1_movesAt_56
  refine pk_b2 (W_X3_tells (sub_tr (by decide +kernel) hM) h) (fun _ s_1 (h_2 : KB M z s_1) => ?_)
  exact pk_some h_2
theorem W_X1_movesAt_B4 {M : Nat} {z : mG} {x1 : Int32} {x2 : Int32} {x3 : Int32} {s : mG} (hM : sub 1770887431076116955136 M) (h : KB M z s) : pk (F_X1_movesAt_B4 x1 x2 x3 s) (se (fun τ => KB M z τ.2.2.2) (fun τ => KB M z τ.2)) := by
  unfold F_X1_movesAt_B4
  refine pk_ite ?_ ?_
  · exact pk_some h
  · refine pk_b1 (W_X3_face (sub_tr (by decide +kernel) hM) h) (fun s_1 (h_2 : KB M z s_1) => ?_)
    refine pk_b1 (W_X3_suppose (sub_tr (by decide +kernel) hM) h_2) (fun s_3 (h_4 : KB M z s_3) => ?_)
    refine pk_b1 pk_top (fun _ _ => ?_)
    refine pk_ite ?_ ?_
    · exact (W_X1_movesAt_56 (sub_tr (by decide +kernel) hM) h_4)
    · exact (W_X1_movesAt_56 (sub_tr (by decide +kernel) hM) h_4)
theorem W_X1_movesAt_L4 {M : Nat} {z : mG} {x1 : Int32} {x2 : Int32} {x3 : Int32} {s : mG} (hM : sub 1770887431076116955136 M) (h : KB M z s) : pk (F_X1_movesAt_L4 x1 x2 x3 s) (fun τ => KB M z τ.2) := by
  unfold F_X1_movesAt_L4
  refine pk_whl (fun v => KB M z v.2.2.2) h (fun v hv => ?_)
  obtain ⟨y0, y1, y2, y3⟩ := v
  exact W_X1_movesAt_B4 (sub_tr (by decide +kernel) hM) hv
theorem W_X1_movesAt {M : Nat} {z : mG} {a1 : Int32} {s : mG} (hM : sub 1770887431076116955136 M) (h : KB M z s) : pk (F_X1_movesAt a1 s) (fun τ => KB M z τ.2) := by
  unfold F_X1_movesAt
  exact (W_X1_movesAt_L4 (sub_tr (by decide +kernel) hM) h)
theorem W_X1_movesNow {M : Nat} {z : mG} {s : mG} (hM : sub 1770887431076116955136 M) (h : KB M z s) : pk (F_X1_movesNow s) (fun τ => KB M z τ.2) := by
  unfold F_X1_movesNow
  refine pk_b2 (W_X1_movesAt (sub_tr (by decide +kernel) hM) h) (fun _ s_1 (h_2 : KB M z s_1) => ?_)
  exact pk_some h_2
theorem W_X1_busiestClock_34 {M : Nat} {z : mG} {x1 : Int32} {x2 : Int32} {x3 : Int32} {s : mG} (hM : sub 0 M) (h : KB M z s) : pk (F_X1_busiestClock_34 x1 x2 x3 s) (se (fun τ => KB M z τ.2.2.2) (fun τ => KB M z τ.2)) := by
  unfold F_X1_busiestClock_34
  exact pk_some h
theorem W_X1_busiestClock_B10 {M : Nat} {z : mG} {x1 : Int32} {x2 : Int32} {x3 : Int32} {s : mG} (hM : sub 1770887431076116955136 M) (h : KB M z s) : pk (F_X1_busiestClock_B10 x1 x2 x3 s) (se (fun τ => KB M z τ.2.2.2) (fun τ => KB M z τ.2)) := by
  unfold F_X1_busiestClock_B10
  refine pk_ite ?_ ?_
  · exact pk_some h
  · refine pk_b2 (W_X1_movesAt (sub_tr (by decide +kernel) hM) h) (fun _ s_1 (h_2 : KB M z s_1) => ?_)
    refine pk_ite ?_ ?_
    · exact (W_X1_busiestClock_34 (sub_tr (by decide +kernel) hM) h_2)
    · exact (W_X1_busiestClock_34 (sub_tr (by decide +kernel) hM) h_2)
theorem W_X1_busiestClock_L10 {M : Nat} {z : mG} {x1 : Int32} {x2 : Int32} {x3 : Int32} {s : mG} (hM : sub 1770887431076116955136 M) (h : KB M z s) : pk (F_X1_busiestClock_L10 x1 x2 x3 s) (fun τ => KB M z τ.2) := by
  unfold F_X1_busiestClock_L10
  refine pk_whl (fun v => KB M z v.2.2.2) h (fun v hv => ?_)
  obtain ⟨y0, y1, y2, y3⟩ := v
  exact W_X1_busiestClock_B10 (sub_tr (by decide +kernel) hM) hv
theorem W_X1_busiestClock {M : Nat} {z : mG} {s : mG} (hM : sub 1770887431076116955136 M) (h : KB M z s) : pk (F_X1_busiestClock s) (fun τ => KB M z τ.2) := by
  unfold F_X1_busiestClock
  refine pk_b2 (W_X1_movesAt (sub_tr (by decide +kernel) hM) h) (fun _ s_1 (h_2 : KB M z s_1) => ?_)
  exact (W_X1_busiestClock_L10 (sub_tr (by decide +kernel) hM) h_2)
theorem W_X1_costOfTag_B6 {M : Nat} {z : mG} {x1 : Int32} {x2 : Int32} {x3 : Int32} {x4 : Int32} {x5 : Int32} {s : mG} (hM : sub 1770887431076116955136 M) (h : KB M z s) : pk (F_X1_costOfTag_B6 x1 x2 x3 x4 x5 s) (se (fun τ => KB M z τ.2.2.2.2.2) (fun τ => KB M z τ.2)) := by
  unfold F_X1_costOfTag_B6
  refine pk_ite ?_ ?_
  · extract_lets +onlyGivenNames v_1
    clear_value v_1
    exact pk_some h
  · refine pk_b1 (W_X3_face (sub_tr (by decide +kernel) hM) h) (fun s_2 (h_3 : KB M z s_2) => ?_)
    refine pk_b1 (W_X3_suppose (sub_tr (by decide +kernel) hM) h_3) (fun s_4 (h_5 : KB M z s_4) => ?_)
    refine pk_b2 (W_X3_tells (sub_tr (by decide +kernel) hM) h_5) (fun _ s_6 (h_7 : KB M z s_6) => ?_)
    exact pk_some h_7
theorem W_X1_costOfTag_L6 {M : Nat} {z : mG} {x1 : Int32} {x2 : Int32} {x3 : Int32} {x4 : Int32} {x5 : Int32} {s : mG} (hM : sub 1770887431076116955136 M) (h : KB M z s) : pk (F_X1_costOfTag_L6 x1 x2 x3 x4 x5 s) (fun τ => KB M z τ.2) := by
  unfold F_X1_costOfTag_L6
  refine pk_whl (fun v => KB M z v.2.2.2.2.2) h (fun v hv => ?_)
  obtain ⟨y0, y1, y2, y3, y4, y5⟩ := v
  exact W_X1_costOfTag_B6 (sub_tr (by decide +kernel) hM) hv
theorem W_X1_costOfTag {M : Nat} {z : mG} {a1 : Int32} {a2 : Int32} {a3 : Int32} {s : mG} (hM : sub 1770887431076116955136 M) (h : KB M z s) : pk (F_X1_costOfTag a1 a2 a3 s) (fun τ => KB M z τ.2) := by
  unfold F_X1_costOfTag
  exact (W_X1_costOfTag_L6 (sub_tr (by decide +kernel) hM) h)
theorem W_X1_bestTag_45 {M : Nat} {z : mG} {x1 : Int32} {x2 : Int32} {x3 : Int32} {x4 : Int32} {x5 : Int32} {s : mG} (hM : sub 0 M) (h : KB M z s) : pk (F_X1_bestTag_45 x1 x2 x3 x4 x5 s) (se (fun τ => KB M z τ.2.2.2.2.2) (fun τ => KB M z τ.2)) := by
  unfold F_X1_bestTag_45
  exact pk_some h
theorem W_X1_bestTag_B14 {M : Nat} {z : mG} {x1 : Int32} {x2 : Int32} {x3 : Int32} {x4 : Int32} {x5 : Int32} {s : mG} (hM : sub 1770887431076116955136 M) (h : KB M z s) : pk (F_X1_bestTag_B14 x1 x2 x3 x4 x5 s) (se (fun τ => KB M z τ.2.2.2.2.2) (fun τ => KB M z τ.2)) := by
  unfold F_X1_bestTag_B14
  refine pk_ite ?_ ?_
  · exact pk_some h
  · refine pk_b2 (W_X1_costOfTag (sub_tr (by decide +kernel) hM) h) (fun _ s_1 (h_2 : KB M z s_1) => ?_)
    refine pk_ite ?_ ?_
    · exact (W_X1_bestTag_45 (sub_tr (by decide +kernel) hM) h_2)
    · exact (W_X1_bestTag_45 (sub_tr (by decide +kernel) hM) h_2)
theorem W_X1_bestTag_L14 {M : Nat} {z : mG} {x1 : Int32} {x2 : Int32} {x3 : Int32} {x4 : Int32} {x5 : Int32} {s : mG} (hM : sub 1770887431076116955136 M) (h : KB M z s) : pk (F_X1_bestTag_L14 x1 x2 x3 x4 x5 s) (fun τ => KB M z τ.2) := by
  unfold F_X1_bestTag_L14
  refine pk_whl (fun v => KB M z v.2.2.2.2.2) h (fun v hv => ?_)
  obtain ⟨y0, y1, y2, y3, y4, y5⟩ := v
  exact W_X1_bestTag_B14 (sub_tr (by decide +kernel) hM) hv
theorem W_X1_bestTag {M : Nat} {z : mG} {a1 : Int32} {a2 : Int32} {s : mG} (hM : sub 1770887431076116955136 M) (h : KB M z s) : pk (F_X1_bestTag a1 a2 s) (fun τ => KB M z τ.2) := by
  unfold F_X1_bestTag
  refine pk_b2 (W_X1_costOfTag (sub_tr (by decide +kernel) hM) h) (fun _ s_1 (h_2 : KB M z s_1) => ?_)
  exact (W_X1_bestTag_L14 (sub_tr (by decide +kernel) hM) h_2)
theorem W_X1_likeliestToCarry_49 {M : Nat} {z : mG} {x1 : Int32} {x2 : Int32} {x3 : Int32} {s : mG} (hM : sub 0 M) (h : KB M z s) : pk (F_X1_likeliestToCarry_49 x1 x2 x3 s) (se (fun τ => KB M z τ.2.2.2) (fun τ => KB M z τ.2)) := by
  unfold F_X1_likeliestToCarry_49
  exact pk_some h
theorem W_X1_likeliestToCarry_B6 {M : Nat} {z : mG} {x1 : Int32} {x2 : Int32} {x3 : Int32} {s : mG} (hM : sub 1770887431076116955136 M) (h : KB M z s) : pk (F_X1_likeliestToCarry_B6 x1 x2 x3 s) (se (fun τ => KB M z τ.2.2.2) (fun τ => KB M z τ.2)) := by
  unfold F_X1_likeliestToCarry_B6
  refine pk_ite ?_ ?_
  · exact pk_some h
  · refine pk_b1 (W_X3_face (sub_tr (by decide +kernel) hM) h) (fun s_1 (h_2 : KB M z s_1) => ?_)
    refine pk_b2 (W_X3_tells (sub_tr (by decide +kernel) hM) h_2) (fun _ s_3 (h_4 : KB M z s_3) => ?_)
    refine pk_ite ?_ ?_
    · exact (W_X1_likeliestToCarry_49 (sub_tr (by decide +kernel) hM) h_4)
    · exact (W_X1_likeliestToCarry_49 (sub_tr (by decide +kernel) hM) h_4)
theorem W_X1_likeliestToCarry_L6 {M : Nat} {z : mG} {x1 : Int32} {x2 : Int32} {x3 : Int32} {s : mG} (hM : sub 1770887431076116955136 M) (h : KB M z s) : pk (F_X1_likeliestToCarry_L6 x1 x2 x3 s) (fun τ => KB M z τ.2) := by
  unfold F_X1_likeliestToCarry_L6
  refine pk_whl (fun v => KB M z v.2.2.2) h (fun v hv => ?_)
  obtain ⟨y0, y1, y2, y3⟩ := v
  exact W_X1_likeliestToCarry_B6 (sub_tr (by decide +kernel) hM) hv
theorem W_X1_likeliestToCarry {M : Nat} {z : mG} {s : mG} (hM : sub 1770887431076116955136 M) (h : KB M z s) : pk (F_X1_likeliestToCarry s) (fun τ => KB M z τ.2) := by
  unfold F_X1_likeliestToCarry
  exact (W_X1_likeliestToCarry_L6 (sub_tr (by decide +kernel) hM) h)
theorem W_X10_put_39 {M : Nat} {z : mG} {t : Nat} {x3 : Int32} {x4 : Int32} {y0 : Int32} {s : mG} (hM : sub 0 M) (h_t_1 : M.testBit (t + 1) = true) (h : KB M z s) : pk (F_X10_put_39 t x3 x4 y0 s) (fun τ => KB M z τ) := by
  unfold F_X10_put_39
  refine pk_ite ?_ ?_
  · exact pk_some h
  · refine pk_ite ?_ ?_
    · exact pk_some h
    · refine pk_ite ?_ ?_
      · exact pk_some h
      · refine pk_nn ?_
        extract_lets +onlyGivenNames s_1
        have h_2 : KB M z s_1 := KB_mu h h_t_1
        clear_value s_1
        exact pk_some h_2
theorem W_X10_put_38 {M : Nat} {z : mG} {t : Nat} {x3 : Int32} {x4 : Int32} {s : mG} (hM : sub 0 M) (h_t_1 : M.testBit (t + 1) = true) (h : KB M z s) : pk (F_X10_put_38 t x3 x4 s) (fun τ => KB M z τ) := by
  unfold F_X10_put_38
  exact (W_X10_put_39 (sub_tr (by decide +kernel) hM) h_t_1 h)
theorem W_X10_put {M : Nat} {z : mG} {t : Nat} {a1 : Int32} {a2 : Int32} {a3 : Int32} {s : mG} (hM : sub 0 M) (h_t_1 : M.testBit (t + 1) = true) (h : KB M z s) : pk (F_X10_put t a1 a2 a3 s) (fun τ => KB M z τ) := by
  unfold F_X10_put
  extract_lets +onlyGivenNames v_1
  clear_value v_1
  refine pk_ite ?_ ?_
  · exact (W_X10_put_38 (sub_tr (by decide +kernel) hM) h_t_1 h)
  · refine pk_ite ?_ ?_
    · exact (W_X10_put_38 (sub_tr (by decide +kernel) hM) h_t_1 h)
    · refine pk_ite ?_ ?_
      · exact (W_X10_put_38 (sub_tr (by decide +kernel) hM) h_t_1 h)
      · refine pk_ite ?_ ?_
        · exact (W_X10_put_38 (sub_tr (by decide +kernel) hM) h_t_1 h)
        · exact (W_X10_put_39 (sub_tr (by decide +kernel) hM) h_t_1 h)
theorem W_X1_countGoings_92 {M : Nat} {z : mG} {x1 : Int32} {x2 : Int32} {x3 : Int32} {x4 : Int32} {s : mG} (hM : sub 0 M) (h : KB M z s) : pk (F_X1_countGoings_92 x1 x2 x3 x4 s) (se (fun τ => KB M z τ.2.2.2.2) (fun τ => KB M z τ)) := by
  unfold F_X1_countGoings_92
  exact pk_some h
theorem W_X1_countGoings_B7 {M : Nat} {z : mG} {x1 : Int32} {x2 : Int32} {x3 : Int32} {x4 : Int32} {s : mG} (hM : sub 606233797238390704308224 M) (h : KB M z s) : pk (F_X1_countGoings_B7 x1 x2 x3 x4 s) (se (fun τ => KB M z τ.2.2.2.2) (fun τ => KB M z τ)) := by
  unfold F_X1_countGoings_B7
  refine pk_ite ?_ ?_
  · refine pk_b1 (W_X10_put (sub_tr (by decide +kernel) hM) (hM 79 (by decide +kernel)) h) (fun s_1 (h_2 : KB M z s_1) => ?_)
    refine pk_b1 (W_X10_put (sub_tr (by decide +kernel) hM) (hM 79 (by decide +kernel)) h_2) (fun s_3 (h_4 : KB M z s_3) => ?_)
    exact pk_some h_4
  · refine pk_b1 pk_top (fun _ _ => ?_)
    refine pk_ite ?_ ?_
    · refine pk_b1 (W_X3_face (sub_tr (by decide +kernel) hM) h) (fun s_5 (h_6 : KB M z s_5) => ?_)
      refine pk_b1 (W_X3_suppose (sub_tr (by decide +kernel) hM) h_6) (fun s_7 (h_8 : KB M z s_7) => ?_)
      refine pk_b2 (W_X3_tells (sub_tr (by decide +kernel) hM) h_8) (fun _ s_9 (h_10 : KB M z s_9) => ?_)
      refine pk_b2 (W_X3_tells (sub_tr (by decide +kernel) hM) h_10) (fun _ s_11 (h_12 : KB M z s_11) => ?_)
      extract_lets +onlyGivenNames v_13
      clear_value v_13
      exact (W_X1_countGoings_92 (sub_tr (by decide +kernel) hM) h_12)
    · exact (W_X1_countGoings_92 (sub_tr (by decide +kernel) hM) h)
theorem W_X1_countGoings_L7 {M : Nat} {z : mG} {x1 : Int32} {x2 : Int32} {x3 : Int32} {x4 : Int32} {s : mG} (hM : sub 606233797238390704308224 M) (h : KB M z s) : pk (F_X1_countGoings_L7 x1 x2 x3 x4 s) (fun τ => KB M z τ) := by
  unfold F_X1_countGoings_L7
  refine pk_whl (fun v => KB M z v.2.2.2.2) h (fun v hv => ?_)
  obtain ⟨y0, y1, y2, y3, y4⟩ := v
  exact W_X1_countGoings_B7 (sub_tr (by decide +kernel) hM) hv
theorem W_X1_countGoings {M : Nat} {z : mG} {a1 : Int32} {s : mG} (hM : sub 606233797238390704308224 M) (h : KB M z s) : pk (F_X1_countGoings a1 s) (fun τ => KB M z τ) := by
  unfold F_X1_countGoings
  exact (W_X1_countGoings_L7 (sub_tr (by decide +kernel) hM) h)
theorem W_X10_add {M : Nat} {z : mG} {t : Nat} {s : mG} (hM : sub 0 M) (h_t_0 : M.testBit (t + 0) = true) (h : KB M z s) : pk (F_X10_add t s) (fun τ => KB M z τ.2) := by
  unfold F_X10_add
  refine pk_b1 pk_top (fun _ _ => ?_)
  refine pk_ite ?_ ?_
  · extract_lets +onlyGivenNames s_1
    have h_2 : KB M z s_1 := KB_mu h h_t_0
    clear_value s_1
    exact pk_some h_2
  · exact pk_some h
theorem W_X10_clear {M : Nat} {z : mG} {t : Nat} {s : mG} (hM : sub 0 M) (h_t_0 : M.testBit (t + 0) = true) (h : KB M z s) : pk (F_X10_clear t s) (fun τ => KB M z τ) := by
  unfold F_X10_clear
  extract_lets +onlyGivenNames s_1
  have h_2 : KB M z s_1 := KB_mu h h_t_0
  clear_value s_1
  exact pk_some h_2
theorem W_X1_plan_B58 {M : Nat} {z : mG} {x1 : Int32} {x2 : Int32} {x3 : Int32} {s : mG} (hM : sub 2417851639229258349412352 M) (h : KB M z s) : pk (F_X1_plan_B58 x1 x2 x3 s) (se (fun τ => KB M z τ.2.2.2) (se (fun τ => KB M z τ.2.2) (fun τ => KB M z τ))) := by
  unfold F_X1_plan_B58
  refine pk_ite ?_ ?_
  · exact pk_some h
  · refine pk_b1 pk_top (fun _ _ => ?_)
    refine pk_b1 pk_top (fun _ _ => ?_)
    refine pk_b1 pk_top (fun _ _ => ?_)
    refine pk_b1 (W_X10_put (sub_tr (by decide +kernel) hM) (hM 81 (by decide +kernel)) h) (fun s_1 (h_2 : KB M z s_1) => ?_)
    exact pk_some h_2
theorem W_X1_plan_L58 {M : Nat} {z : mG} {x1 : Int32} {x2 : Int32} {x3 : Int32} {s : mG} (hM : sub 2417851639229258349412352 M) (h : KB M z s) : pk (F_X1_plan_L58 x1 x2 x3 s) (se (fun τ => KB M z τ.2.2) (fun τ => KB M z τ)) := by
  unfold F_X1_plan_L58
  refine pk_whl (fun v => KB M z v.2.2.2) h (fun v hv => ?_)
  obtain ⟨y0, y1, y2, y3⟩ := v
  exact W_X1_plan_B58 (sub_tr (by decide +kernel) hM) hv
theorem W_X1_plan_B52 {M : Nat} {z : mG} {x1 : Int32} {x2 : Int32} {s : mG} (hM : sub 2417851639229258349412352 M) (h : KB M z s) : pk (F_X1_plan_B52 x1 x2 s) (se (fun τ => KB M z τ.2.2) (fun τ => KB M z τ)) := by
  unfold F_X1_plan_B52
  refine pk_ite ?_ ?_
  · exact pk_some h
  · exact (W_X1_plan_L58 (sub_tr (by decide +kernel) hM) h)
theorem W_X1_plan_L52 {M : Nat} {z : mG} {x1 : Int32} {x2 : Int32} {s : mG} (hM : sub 2417851639229258349412352 M) (h : KB M z s) : pk (F_X1_plan_L52 x1 x2 s) (fun τ => KB M z τ) := by
  unfold F_X1_plan_L52
  refine pk_whl (fun v => KB M z v.2.2) h (fun v hv => ?_)
  obtain ⟨y0, y1, y2⟩ := v
  exact W_X1_plan_B52 (sub_tr (by decide +kernel) hM) hv
theorem W_X1_plan_B16 {M : Nat} {z : mG} {x1 : Int32} {x2 : Int32} {s : mG} (hM : sub 4535242710985935522103296 M) (h : KB M z s) : pk (F_X1_plan_B16 x1 x2 s) (se (fun τ => KB M z τ.2.2) (fun τ => KB M z τ)) := by
  unfold F_X1_plan_B16
  refine pk_ite ?_ ?_
  · refine pk_b1r ?_
    exact (W_X1_plan_L52 (sub_tr (by decide +kernel) hM) h)
  · refine pk_b2 (W_X10_add (sub_tr (by decide +kernel) hM) (hM 78 (by decide +kernel)) h) (fun _ s_1 (h_2 : KB M z s_1) => ?_)
    refine pk_b2 (W_X10_add (sub_tr (by decide +kernel) hM) (hM 80 (by decide +kernel)) h_2) (fun _ s_3 (h_4 : KB M z s_3) => ?_)
    refine pk_b1 (W_X1_countGoings (sub_tr (by decide +kernel) hM) h_4) (fun s_5 (h_6 : KB M z s_5) => ?_)
    exact pk_some h_6
theorem W_X1_plan_L16 {M : Nat} {z : mG} {x1 : Int32} {x2 : Int32} {s : mG} (hM : sub 4535242710985935522103296 M) (h : KB M z s) : pk (F_X1_plan_L16 x1 x2 s) (fun τ => KB M z τ) := by
  unfold F_X1_plan_L16
  refine pk_whl (fun v => KB M z v.2.2) h (fun v hv => ?_)
  obtain ⟨y0, y1, y2⟩ := v
  exact W_X1_plan_B16 (sub_tr (by decide +kernel) hM) hv
theorem W_X1_plan {M : Nat} {z : mG} {a1 : Int32} {s : mG} (hM : sub 4535242710985935522103296 M) (h : KB M z s) : pk (F_X1_plan a1 s) (fun τ => KB M z τ) := by
  unfold F_X1_plan
  refine pk_b1 (W_X10_clear (sub_tr (by decide +kernel) hM) (hM 78 (by decide +kernel)) h) (fun s_1 (h_2 : KB M z s_1) => ?_)
  refine pk_b1 (W_X10_clear (sub_tr (by decide +kernel) hM) (hM 80 (by decide +kernel)) h_2) (fun s_3 (h_4 : KB M z s_3) => ?_)
  exact (W_X1_plan_L16 (sub_tr (by decide +kernel) hM) h_4)
theorem W_X10_copyFrom_B27 {M : Nat} {z : mG} {t : Nat} {a1 : Nat} {x2 : Int32} {x3 : Int32} {s : mG} (hM : sub 0 M) (h_t_1 : M.testBit (t + 1) = true) (h : KB M z s) : pk (F_X10_copyFrom_B27 t a1 x2 x3 s) (se (fun τ => KB M z τ.2.2) (fun τ => KB M z τ)) := by
  unfold F_X10_copyFrom_B27
  refine pk_ite ?_ ?_
  · exact pk_some h
  · refine pk_ite ?_ ?_
    · exact pk_some h
    · refine pk_ite ?_ ?_
      · exact pk_some h
      · refine pk_nn ?_
        refine pk_nn ?_
        extract_lets +onlyGivenNames s_1
        have h_2 : KB M z s_1 := KB_mu h h_t_1
        clear_value s_1
        exact pk_some h_2
theorem W_X10_copyFrom_L27 {M : Nat} {z : mG} {t : Nat} {a1 : Nat} {x2 : Int32} {x3 : Int32} {s : mG} (hM : sub 0 M) (h_t_1 : M.testBit (t + 1) = true) (h : KB M z s) : pk (F_X10_copyFrom_L27 t a1 x2 x3 s) (fun τ => KB M z τ) := by
  unfold F_X10_copyFrom_L27
  refine pk_whl (fun v => KB M z v.2.2) h (fun v hv => ?_)
  obtain ⟨y0, y1, y2⟩ := v
  exact W_X10_copyFrom_B27 (sub_tr (by decide +kernel) hM) h_t_1 hv
theorem W_X10_copyFrom {M : Nat} {z : mG} {t : Nat} {a1 : Nat} {s : mG} (hM : sub 0 M) (h_t_0 : M.testBit (t + 0) = true) (h_t_1 : M.testBit (t + 1) = true) (h : KB M z s) : pk (F_X10_copyFrom t a1 s) (fun τ => KB M z τ) := by
  unfold F_X10_copyFrom
  extract_lets +onlyGivenNames s_1
  have h_2 : KB M z s_1 := KB_mu h h_t_0
  clear_value s_1
  extract_lets +onlyGivenNames v_3
  clear_value v_3
  exact (W_X10_copyFrom_L27 (sub_tr (by decide +kernel) hM) h_t_1 h_2)
theorem W_X2_copyFrom {M : Nat} {z : mG} {hh : Nat} {a1 : Nat} {s : mG} (hM : sub 0 M) (h_hh_0 : M.testBit (hh + 0) = true) (h_hh_1 : M.testBit (hh + 1) = true) (h_hh_2 : M.testBit (hh + 2) = true) (h_hh_3 : M.testBit (hh + 3) = true) (h_hh_4 : M.testBit (hh + 4) = true) (h_hh_5 : M.testBit (hh + 5) = true) (h_hh_6 : M.testBit (hh + 6) = true) (h_hh_7 : M.testBit (hh + 7) = true) (h_hh_8 : M.testBit (hh + 8) = true) (h_hh_9 : M.testBit (hh + 9) = true) (h_hh_10 : M.testBit (hh + 10) = true) (h_hh_11 : M.testBit (hh + 11) = true) (h_hh_12 : M.testBit (hh + 12) = true) (h_hh_13 : M.testBit (hh + 13) = true) (h_hh_14 : M.testBit (hh + 14) = true) (h_hh_15 : M.testBit (hh + 15) = true) (h_hh_16 : M.testBit (hh + 16) = true) (h : KB M z s) : pk (F_X2_copyFrom hh a1 s) (fun τ => KB M z τ) := by
  unfold F_X2_copyFrom
  refine pk_b1 (W_X10_copyFrom (sub_tr (by decide +kernel) hM) h_hh_1 h_hh_2 h) (fun s_1 (h_2 : KB M z s_1) => ?_)
  refine pk_b1 (W_X10_copyFrom (sub_tr (by decide +kernel) hM) h_hh_3 h_hh_4 h_2) (fun s_3 (h_4 : KB M z s_3) => ?_)
  refine pk_b1 (W_X10_copyFrom (sub_tr (by decide +kernel) hM) h_hh_5 h_hh_6 h_4) (fun s_5 (h_6 : KB M z s_5) => ?_)
  refine pk_b1 (W_X10_copyFrom (sub_tr (by decide +kernel) hM) h_hh_7 h_hh_8 h_6) (fun s_7 (h_8 : KB M z s_7) => ?_)
  refine pk_b1 (W_X10_copyFrom (sub_tr (by decide +kernel) hM) h_hh_9 h_hh_10 h_8) (fun s_9 (h_10 : KB M z s_9) => ?_)
  refine pk_b1 (W_X10_copyFrom (sub_tr (by decide +kernel) hM) h_hh_11 h_hh_12 h_10) (fun s_11 (h_12 : KB M z s_11) => ?_)
  refine pk_b1 (W_X10_copyFrom (sub_tr (by decide +kernel) hM) h_hh_13 h_hh_14 h_12) (fun s_13 (h_14 : KB M z s_13) => ?_)
  refine pk_b1 (W_X10_copyFrom (sub_tr (by decide +kernel) hM) h_hh_15 h_hh_16 h_14) (fun s_15 (h_16 : KB M z s_15) => ?_)
  extract_lets +onlyGivenNames s_17
  have h_18 : KB M z s_17 := KB_mu h_16 h_hh_0
  clear_value s_17
  extract_lets +onlyGivenNames s_19
  have h_20 : KB M z s_19 := KB_mu h_18 h_hh_0
  clear_value s_19
  extract_lets +onlyGivenNames s_21
  have h_22 : KB M z s_21 := KB_mu h_20 h_hh_0
  clear_value s_21
  extract_lets +onlyGivenNames s_23
  have h_24 : KB M z s_23 := KB_mu h_22 h_hh_0
  clear_value s_23
  exact pk_some h_24
theorem W_X2_forgetSeenOf_B2 {M : Nat} {z : mG} {hh : Nat} {x1 : Int32} {x2 : Int32} {s : mG} (hM : sub 0 M) (h_hh_2 : M.testBit (hh + 2) = true) (h : KB M z s) : pk (F_X2_forgetSeenOf_B2 hh x1 x2 s) (se (fun τ => KB M z τ.2.2) (fun τ => KB M z τ)) := by
  unfold F_X2_forgetSeenOf_B2
  refine pk_ite ?_ ?_
  · exact pk_some h
  · refine pk_b1 (W_X10_put (sub_tr (by decide +kernel) hM) h_hh_2 h) (fun s_1 (h_2 : KB M z s_1) => ?_)
    exact pk_some h_2
theorem W_X2_forgetSeenOf_L2 {M : Nat} {z : mG} {hh : Nat} {x1 : Int32} {x2 : Int32} {s : mG} (hM : sub 0 M) (h_hh_2 : M.testBit (hh + 2) = true) (h : KB M z s) : pk (F_X2_forgetSeenOf_L2 hh x1 x2 s) (fun τ => KB M z τ) := by
  unfold F_X2_forgetSeenOf_L2
  refine pk_whl (fun v => KB M z v.2.2) h (fun v hv => ?_)
  obtain ⟨y0, y1, y2⟩ := v
  exact W_X2_forgetSeenOf_B2 (sub_tr (by decide +kernel) hM) h_hh_2 hv
theorem W_X2_forgetSeenOf {M : Nat} {z : mG} {hh : Nat} {a1 : Int32} {s : mG} (hM : sub 0 M) (h_hh_2 : M.testBit (hh + 2) = true) (h : KB M z s) : pk (F_X2_forgetSeenOf hh a1 s) (fun τ => KB M z τ) := by
  unfold F_X2_forgetSeenOf
  exact (W_X2_forgetSeenOf_L2 (sub_tr (by decide +kernel) hM) h_hh_2 h)
theorem W_X2_addGuest {M : Nat} {z : mG} {hh : Nat} {a1 : Int32} {a2 : Int32} {s : mG} (hM : sub 0 M) (h_hh_1 : M.testBit (hh + 1) = true) (h_hh_2 : M.testBit (hh + 2) = true) (h : KB M z s) : pk (F_X2_addGuest hh a1 a2 s) (fun τ => KB M z τ.2) := by
  unfold F_X2_addGuest
  refine pk_b2 (W_X10_add (sub_tr (by decide +kernel) hM) h_hh_1 h) (fun _ s_1 (h_2 : KB M z s_1) => ?_)
  refine pk_b1 (W_X10_put (sub_tr (by decide +kernel) hM) h_hh_2 h_2) (fun s_3 (h_4 : KB M z s_3) => ?_)
  refine pk_b1 (W_X10_put (sub_tr (by decide +kernel) hM) h_hh_2 h_4) (fun s_5 (h_6 : KB M z s_5) => ?_)
  refine pk_b1 (W_X10_put (sub_tr (by decide +kernel) hM) h_hh_2 h_6) (fun s_7 (h_8 : KB M z s_7) => ?_)
  refine pk_b1 (W_X10_put (sub_tr (by decide +kernel) hM) h_hh_2 h_8) (fun s_9 (h_10 : KB M z s_9) => ?_)
  refine pk_b1 (W_X10_put (sub_tr (by decide +kernel) hM) h_hh_2 h_10) (fun s_11 (h_12 : KB M z s_11) => ?_)
  refine pk_b1 (W_X2_forgetSeenOf (sub_tr (by decide +kernel) hM) h_hh_2 h_12) (fun s_13 (h_14 : KB M z s_13) => ?_)
  exact pk_some h_14
end
end
