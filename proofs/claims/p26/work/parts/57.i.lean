noncomputable section
theorem T_X12_count {s : mG} {a1 : Int32} (hI : IM s) : ok (F_X12_count s a1) (fun (v : Int32) => True) := by
  have hR : RM s s := RM_refl hI
  unfold F_X12_count
  unfold F_X12_count_L4
  refine ok_whl (fun v => a1 = v.1 ∧ 0 ≤ (v.2.2).toInt) (fun v => mUp v.2.2) ⟨rfl, (show 0 ≤ (ci 0).toInt by rw [((by decide : (ci 0).toInt = 0) : (ci 0).toInt = 0)]; omega)⟩ (fun v hv => ?_)
  obtain ⟨x_2, x_3, x_4⟩ := v
  obtain ⟨rfl, rhn_5⟩ := hv
  have hn_5 : 0 ≤ x_4.toInt := rhn_5
  clear rhn_5
  show ok (F_X12_count_B4 s a1 x_3 x_4) _
  unfold F_X12_count_B4
  refine ok_ite (fun h_6 => ?_) (fun h_7 => ?_)
  · have hc_8 := r_le (by decide : (c8 12).toInt = 12) (rfl : (x_4).toInt = _) h_6
    exact ok_some (lp_inr (trivial))
  · have hc_9 := r_nle (by decide : (c8 12).toInt = 12) (rfl : (x_4).toInt = _) h_7
    extract_lets +onlyGivenNames v_10
    clear_value v_10
    exact ok_some (lp_inl ⟨rfl, (up_0 (x := x_4) (by omega) (by omega))⟩ (up_t (x := x_4) (by omega)))
theorem T_X12_done {s : mG} {a1 : Int32} (hI : IM s) : ok (F_X12_done s a1) (fun (v : Int32) => True) := by
  have hR : RM s s := RM_refl hI
  unfold F_X12_done
  refine ok_b1 (T_X12_isIn hR.1) (fun v_1 (hv_2 : QI v_1 a1 (ci 0) (ci 1)) => ?_)
  refine ok_ite (fun h_3 => ?_) (fun h_4 => ?_)
  · have hc_5 := r_eq (rfl : (v_1).toInt = _) (by decide : (0 : Int32).toInt = 0) h_3
    exact ok_some trivial
  · have hc_6 := r_ne (rfl : (v_1).toInt = _) (by decide : (0 : Int32).toInt = 0) h_4
    have hf_7 := isin_f (a := a1) (by decide : (ci 0).toInt = 0) (by decide : (ci 1).toInt = 1) (hv_2.2 h_4)
    unfold F_X12_done_L15
    refine ok_whl (fun v => a1 = v.1 ∧ 0 ≤ (v.2.2).toInt) (fun v => mUp v.2.2) ⟨rfl, (show 0 ≤ (ci 1).toInt by rw [((by decide : (ci 1).toInt = 1) : (ci 1).toInt = 1)]; omega)⟩ (fun v hv => ?_)
    obtain ⟨x_14, x_15, x_16⟩ := v
    obtain ⟨rfl, rhn_17⟩ := hv
    have hn_17 : 0 ≤ x_16.toInt := rhn_17
    clear rhn_17
    show ok (F_X12_done_B15 s a1 x_15 x_16) _
    unfold F_X12_done_B15
    refine ok_ite (fun h_18 => ?_) (fun h_19 => ?_)
    · refine ok_ite (fun h_20 => ?_) (fun h_21 => ?_)
      · have hc_22 := r_eq (rfl : (a1).toInt = _) (by decide : (0 : Int32).toInt = 0) h_20
        refine ok_b1 (T_X12_worthOfSet hR.1) (fun v_23 _ => ?_)
        exact ok_some (lp_inr (trivial))
      · have hc_25 := r_ne (rfl : (a1).toInt = _) (by decide : (0 : Int32).toInt = 0) h_21
        exact ok_some (lp_inr (trivial))
    · have hc_26 := ge_t h_19
      refine ok_b1 (T_X12_canDo hR.1) (fun v_27 (hv_28 : PB v_27) => ?_)
      refine ok_ite (fun h_29 => ?_) (fun h_30 => ?_)
      · have hc_31 := r_eq (rfl : (v_27).toInt = _) (by decide : (0 : Int32).toInt = 0) h_29
        unfold F_X12_done_75
        exact ok_some (lp_inl ⟨rfl, (up_0 (x := x_16) (by omega) (by omega))⟩ (up_t (x := x_16) (by omega)))
      · have hc_32 := r_ne (rfl : (v_27).toInt = _) (by decide : (0 : Int32).toInt = 0) h_30
        refine ok_b1 (T_X12_worthOfSet hR.1) (fun v_33 _ => ?_)
        refine ok_b1 (T_X12_worthOfSet hR.1) (fun v_35 _ => ?_)
        refine ok_ite (fun h_37 => ?_) (fun h_38 => ?_)
        · unfold F_X12_done_73
          unfold F_X12_done_75
          exact ok_some (lp_inl ⟨rfl, (up_0 (x := x_16) (by omega) (by omega))⟩ (up_t (x := x_16) (by omega)))
        · refine ok_ite (fun h_39 => ?_) (fun h_40 => ?_)
          · refine ok_b1 (T_X12_count hR.1) (fun v_41 _ => ?_)
            refine ok_b1 (T_X12_count hR.1) (fun v_43 _ => ?_)
            refine ok_ite (fun h_45 => ?_) (fun h_46 => ?_)
            · have hc_47 := r_le (rfl : (v_43).toInt = _) (rfl : (v_41).toInt = _) h_45
              unfold F_X12_done_75
              exact ok_some (lp_inl ⟨rfl, (up_0 (x := x_16) (by omega) (by omega))⟩ (up_t (x := x_16) (by omega)))
            · have hc_48 := ge_t h_46
              have hc_49 := r_nle (rfl : (v_43).toInt = _) (rfl : (v_41).toInt = _) h_46
              unfold F_X12_done_73
              unfold F_X12_done_75
              exact ok_some (lp_inl ⟨rfl, (up_0 (x := x_16) (by omega) (by omega))⟩ (up_t (x := x_16) (by omega)))
          · unfold F_X12_done_75
            exact ok_some (lp_inl ⟨rfl, (up_0 (x := x_16) (by omega) (by omega))⟩ (up_t (x := x_16) (by omega)))
theorem T_X12_swappedSet {s : mG} (hI : IM s) : ok (F_X12_swappedSet s) (fun (v : Int32) => True) := by
  have hR : RM s s := RM_refl hI
  unfold F_X12_swappedSet
  unfold F_X12_swappedSet_L4
  refine ok_whl (fun v => 0 ≤ (v.2).toInt) (fun v => mUp v.2) (show 0 ≤ (ci 0).toInt by rw [((by decide : (ci 0).toInt = 0) : (ci 0).toInt = 0)]; omega) (fun v hv => ?_)
  obtain ⟨x_1, x_2⟩ := v
  have hn_3 : 0 ≤ x_2.toInt := hv
  show ok (F_X12_swappedSet_B4 s x_1 x_2) _
  unfold F_X12_swappedSet_B4
  refine ok_ite (fun h_4 => ?_) (fun h_5 => ?_)
  · have hk_6 := im_112 hR.1
    have hc_7 := r_le (rfl : (s.1 89 112).toInt = _) (rfl : (x_2).toInt = _) h_4
    exact ok_some (lp_inr (trivial))
  · have hk_8 := im_112 hR.1
    have hc_9 := r_nle (rfl : (s.1 89 112).toInt = _) (rfl : (x_2).toInt = _) h_5
    refine ok_nn (ix_ok (r_add (by decide : (c8 15).toInt = 15) (rfl : (x_2).toInt = _) (by omega) (by omega)) (by omega) (by omega)) ?_
    refine ok_ite (fun h_10 => ?_) (fun h_11 => ?_)
    · unfold F_X12_swappedSet_56
      unfold F_X12_swappedSet_57
      exact ok_some (lp_inl (up_0 (x := x_2) (by omega) (by omega)) (up_t (x := x_2) (by omega)))
    · refine ok_nn (ix_ok (r_add (by decide : (c8 15).toInt = 15) (rfl : (x_2).toInt = _) (by omega) (by omega)) (by omega) (by omega)) ?_
      refine ok_ite (fun h_12 => ?_) (fun h_13 => ?_)
      · unfold F_X12_swappedSet_56
        unfold F_X12_swappedSet_57
        exact ok_some (lp_inl (up_0 (x := x_2) (by omega) (by omega)) (up_t (x := x_2) (by omega)))
      · refine ok_nn (ix_ok (r_add (by decide : (c8 15).toInt = 15) (rfl : (x_2).toInt = _) (by omega) (by omega)) (by omega) (by omega)) ?_
        unfold F_X12_swappedSet_57
        exact ok_some (lp_inl (up_0 (x := x_2) (by omega) (by omega)) (up_t (x := x_2) (by omega)))
def Chn (f : Nat → Int32) (first : Nat) : List Nat → Prop
  | [] => False
  | [x] => x = first
  | x :: y :: l => f (15 + y) = cn x ∧ Chn f first (y :: l)
theorem chn_succ {f : Nat → Int32} {first g : Nat} : ∀ (l : List Nat) (h : Nat), Chn f first (h :: l) → g ∈ h :: l → g ≠ first → ∃ b, b ∈ l ∧ f (15 + b) = cn g := by
  intro l
  induction l with
  | nil =>
    intro h hc hm hne
    have e1 : h = first := hc
    have e2 : g = h := by simpa using hm
    exact absurd (e2.trans e1) hne
  | cons y l ih =>
    intro h hc hm hne
    rcases List.mem_cons.mp hm with e | e
    · subst e
      exact ⟨y, List.mem_cons_self, hc.1⟩
    · obtain ⟨b, hb, hf⟩ := ih y hc.2 e hne
      exact ⟨b, List.mem_cons_of_mem _ hb, hf⟩
theorem nodup_len : ∀ (n : Nat) (l : List Nat), l.Nodup → (∀ x, x ∈ l → x < n) → l.length ≤ n := by
  intro n
  induction n with
  | zero =>
    intro l _ h
    cases l with
    | nil => exact Nat.le_refl _
    | cons x l => exact absurd (h x List.mem_cons_self) (by omega)
  | succ n ih =>
    intro l hl h
    by_cases hm : n ∈ l
    · have h1 := ih (l.erase n) (hl.erase n) (fun x hx => by
        have hx2 := (List.Nodup.mem_erase_iff hl).mp hx
        have := h x hx2.2
        have := hx2.1
        omega)
      rw [List.length_erase_of_mem hm] at h1
      omega
    · have h1 := ih l hl (fun x hx => by
        have := h x hx
        have hne : x ≠ n := fun e => hm (e ▸ hx)
        omega)
      omega
def wpost {σ ρ : Type} (body : σ → Option (σ ⊕ ρ)) (Q : ρ → Prop) : σ ⊕ ρ → Prop
  | .inl v => ok (whl body v) Q
  | .inr a => Q a
theorem ok_step {σ ρ : Type} {body : σ → Option (σ ⊕ ρ)} {v : σ} {Q : ρ → Prop} (h : ok (body v) (wpost body Q)) : ok (whl body v) Q := by
  obtain ⟨a, h1, h2⟩ := h
  rw [whl_eq, h1]
  cases a with
  | inl v' => exact h2
  | inr a => exact ⟨a, rfl, h2⟩
theorem leads_tot {s : mG} {a1 : Int32} (h0 : 0 ≤ a1.toInt ∧ a1.toInt < (s.1 89 112).toInt) (hI : IM s) : ∀ (n : Nat) (g : Int32) (h : Nat) (l : List Nat), n + (h :: l).length = 13 → Chn (s.1 89) a1.toInt.toNat (h :: l) → (h :: l).Nodup → (∀ x, x ∈ h :: l → (x : Int) < (s.1 89 112).toInt) → s.1 89 (15 + h) = g → ok (whl (fun (v : (Int32 × Int32)) => F_X12_leadsRing_B10 s v.1 v.2) (a1, g)) PB := by
  have i := im_112 hI
  intro n
  induction n with
  | zero =>
    intro g h l hn hc hd hlt hg
    have := nodup_len 12 (h :: l) hd (fun x hx => by have := hlt x hx; omega)
    omega
  | succ n ih =>
    intro g h l hn hc hd hlt hg
    have hh := hlt h List.mem_cons_self
    have hr := hI.2.1.2.1 h (by omega) hh
    rw [hg] at hr
    refine ok_step ?_
    show ok (F_X12_leadsRing_B10 s a1 g) _
    unfold F_X12_leadsRing_B10 F_X12_leadsRing_33
    have fin : ok (b1 (if g = a1 then some (ci 1) else some (ci 0)) fun τ => some (Sum.inr τ)) (wpost (fun (v : (Int32 × Int32)) => F_X12_leadsRing_B10 s v.1 v.2) PB) := by
      by_cases q : g = a1
      · rw [if_pos q]; exact ok_some pb1
      · rw [if_neg q]; exact ok_some pb0
    refine ok_ite (fun _ => fin) (fun c1 => ?_)
    refine ok_ite (fun _ => fin) (fun c2 => ?_)
    have g1 := r_ne (rfl : g.toInt = _) (by decide : (ci (-1)).toInt = -1) c1
    have g2 := r_nle (rfl : g.toInt = _) (rfl : a1.toInt = _) c2
    refine ok_nn (ix_ok (r_add (by decide : (c8 15).toInt = 15) (rfl : g.toInt = _) (by omega) (by omega)) (by omega) (by omega)) ?_
    rw [r_ix (b := 15) (by decide) (by omega) (by omega) (by decide)]
    have gc : g = cn g.toInt.toNat := Int32.toInt_inj.mp (by rw [t_cn (by omega)]; omega)
    have hnot : g.toInt.toNat ∉ h :: l := by
      intro hm
      obtain ⟨b, hb, hf⟩ := chn_succ l h hc hm (by omega)
      have hb2 := hlt b (List.mem_cons_of_mem _ hb)
      have e := hI.2.1.2.2 h b (by omega) (by omega) hh hb2 (by rw [hg, hf]; exact gc) (by rw [hg]; exact c1)
      subst e
      exact (List.nodup_cons.mp hd).1 hb
    refine ok_some ?_
    show ok (whl _ (a1, s.1 89 (15 + g.toInt.toNat))) PB
    refine ih _ g.toInt.toNat (h :: l) (by simp only [List.length_cons] at hn ⊢; omega) ⟨by rw [hg]; exact gc, hc⟩ (List.nodup_cons.mpr ⟨hnot, hd⟩) (fun x hx => ?_) rfl
    rcases List.mem_cons.mp hx with e | e
    · subst e; omega
    · exact hlt x e
theorem T_X12_leadsRing {s : mG} {a1 : Int32} (h_a1 : 0 ≤ a1.toInt ∧ a1.toInt < (s.1 89 112).toInt) (hI : IM s) : ok (F_X12_leadsRing s a1) PB := by
  have i := im_112 hI
  unfold F_X12_leadsRing F_X12_leadsRing_L10
  refine ok_nn (ix_ok (r_add (by decide : (c8 15).toInt = 15) (rfl : a1.toInt = _) (by omega) (by omega)) (by omega) (by omega)) ?_
  rw [r_ix (b := 15) (by decide) h_a1.1 (by omega) (by decide)]
  exact leads_tot h_a1 hI 12 _ a1.toInt.toNat [] rfl rfl (List.nodup_cons.mpr ⟨List.not_mem_nil, List.nodup_nil⟩) (fun x hx => by
    have e : x = a1.toInt.toNat := by simpa using hx
    subst e; omega) rfl
theorem T_X12_ring {s : mG} {a1 : Int32} (hI : IM s) : ok (F_X12_ring s a1) (fun (v : Int32) => True) := by
  have hR : RM s s := RM_refl hI
  unfold F_X12_ring
  refine ok_b1 (T_X12_isGuest hR.1) (fun v_1 (hv_2 : QG v_1 a1 (s.1 89 112)) => ?_)
  refine ok_ite (fun h_3 => ?_) (fun h_4 => ?_)
  · have hc_5 := r_eq (rfl : (v_1).toInt = _) (by decide : (0 : Int32).toInt = 0) h_3
    exact ok_some trivial
  · have hc_6 := r_ne (rfl : (v_1).toInt = _) (by decide : (0 : Int32).toInt = 0) h_4
    have hk_7 := im_112 hR.1
    have hk_8 := im_115 hR.1
    have hf_9 := hv_2.2 h_4
    unfold F_X12_ring_L14
    refine ok_whl (fun v => a1 = v.1 ∧ 0 ≤ (v.2.1).toInt ∧ (-1 ≤ (v.2.2).toInt ∧ (v.2.2).toInt < (s.1 89 112).toInt)) (fun v => mUp v.2.1) ⟨rfl, (show 0 ≤ (ci 0).toInt by rw [((by decide : (ci 0).toInt = 0) : (ci 0).toInt = 0)]; omega), (show -1 ≤ (a1).toInt ∧ (a1).toInt < (s.1 89 112).toInt from ⟨by omega, by omega⟩)⟩ (fun v hv => ?_)
    obtain ⟨x_12, x_13, x_14⟩ := v
    obtain ⟨rfl, rhn_15, rhn_16⟩ := hv
    have hn_15 : 0 ≤ x_13.toInt := rhn_15
    have hn_16 : -1 ≤ (x_14).toInt ∧ (x_14).toInt < (s.1 89 112).toInt := rhn_16
    clear rhn_15 rhn_16
    show ok (F_X12_ring_B14 s a1 x_13 x_14) _
    unfold F_X12_ring_B14
    refine ok_ite (fun h_17 => ?_) (fun h_18 => ?_)
    · have hc_19 := r_eq (rfl : (x_14).toInt = _) (by decide : (ci (-1)).toInt = (-1)) h_17
      refine ok_b1r ?_
      unfold F_X12_ring_55
      refine ok_ite (fun h_20 => ?_) (fun h_21 => ?_)
      · have hc_22 := r_eq (rfl : (x_14).toInt = _) (rfl : (a1).toInt = _) h_20
        refine ok_ite (fun h_23 => ?_) (fun h_24 => ?_)
        · have hc_25 := r_le (rfl : (x_13).toInt = _) (by decide : (ci 1).toInt = 1) h_23
          unfold F_X12_ring_69
          exact ok_some trivial
        · have hc_26 := r_nle (rfl : (x_13).toInt = _) (by decide : (ci 1).toInt = 1) h_24
          exact ok_some trivial
      · have hc_27 := r_ne (rfl : (x_14).toInt = _) (rfl : (a1).toInt = _) h_21
        unfold F_X12_ring_69
        exact ok_some trivial
    · have hc_28 := r_ne (rfl : (x_14).toInt = _) (by decide : (ci (-1)).toInt = (-1)) h_18
      refine ok_ite (fun h_29 => ?_) (fun h_30 => ?_)
      · have hc_31 := r_lt (rfl : (s.1 89 112).toInt = _) (rfl : (x_13).toInt = _) h_29
        refine ok_b1r ?_
        unfold F_X12_ring_55
        refine ok_ite (fun h_32 => ?_) (fun h_33 => ?_)
        · have hc_34 := r_eq (rfl : (x_14).toInt = _) (rfl : (a1).toInt = _) h_32
          refine ok_ite (fun h_35 => ?_) (fun h_36 => ?_)
          · have hc_37 := r_le (rfl : (x_13).toInt = _) (by decide : (ci 1).toInt = 1) h_35
            unfold F_X12_ring_69
            exact ok_some trivial
          · have hc_38 := r_nle (rfl : (x_13).toInt = _) (by decide : (ci 1).toInt = 1) h_36
            exact ok_some trivial
        · have hc_39 := r_ne (rfl : (x_14).toInt = _) (rfl : (a1).toInt = _) h_33
          unfold F_X12_ring_69
          exact ok_some trivial
      · have hc_40 := r_nlt (rfl : (s.1 89 112).toInt = _) (rfl : (x_13).toInt = _) h_30
        refine ok_ite (fun h_41 => ?_) (fun h_42 => ?_)
        · have hc_43 := r_eq (rfl : (x_13).toInt = _) (by decide : (0 : Int32).toInt = 0) h_41
          unfold F_X12_ring_39
          refine ok_nn (ix_ok (r_add (by decide : (c8 15).toInt = 15) (rfl : (x_14).toInt = _) (by omega) (by omega)) (by omega) (by omega)) ?_
          extract_lets +onlyGivenNames v_44
          have hw_45 : -1 ≤ v_44.toInt ∧ v_44.toInt < (s.1 89 112).toInt := im_key hI (by omega) (by omega)
          clear_value v_44
          exact ok_some (lp_inl ⟨rfl, (up_0 (x := x_13) (by omega) (by omega)), (show -1 ≤ (v_44).toInt ∧ (v_44).toInt < (s.1 89 112).toInt from ⟨by omega, by omega⟩)⟩ (up_t (x := x_13) (by omega)))
        · have hc_46 := r_ne (rfl : (x_13).toInt = _) (by decide : (0 : Int32).toInt = 0) h_42
          refine ok_ite (fun h_47 => ?_) (fun h_48 => ?_)
          · have hc_49 := r_eq (rfl : (x_14).toInt = _) (rfl : (a1).toInt = _) h_47
            refine ok_b1r ?_
            unfold F_X12_ring_55
            refine ok_ite (fun h_50 => ?_) (fun h_51 => ?_)
            · have hc_52 := r_eq (rfl : (x_14).toInt = _) (rfl : (a1).toInt = _) h_50
              refine ok_ite (fun h_53 => ?_) (fun h_54 => ?_)
              · have hc_55 := r_le (rfl : (x_13).toInt = _) (by decide : (ci 1).toInt = 1) h_53
                unfold F_X12_ring_69
                exact ok_some trivial
              · have hc_56 := r_nle (rfl : (x_13).toInt = _) (by decide : (ci 1).toInt = 1) h_54
                exact ok_some trivial
            · have hc_57 := r_ne (rfl : (x_14).toInt = _) (rfl : (a1).toInt = _) h_51
              unfold F_X12_ring_69
              exact ok_some trivial
          · have hc_58 := r_ne (rfl : (x_14).toInt = _) (rfl : (a1).toInt = _) h_48
            unfold F_X12_ring_39
            refine ok_nn (ix_ok (r_add (by decide : (c8 15).toInt = 15) (rfl : (x_14).toInt = _) (by omega) (by omega)) (by omega) (by omega)) ?_
            extract_lets +onlyGivenNames v_59
            have hw_60 : -1 ≤ v_59.toInt ∧ v_59.toInt < (s.1 89 112).toInt := im_key hI (by omega) (by omega)
            clear_value v_59
            exact ok_some (lp_inl ⟨rfl, (up_0 (x := x_13) (by omega) (by omega)), (show -1 ≤ (v_59).toInt ∧ (v_59).toInt < (s.1 89 112).toInt from ⟨by omega, by omega⟩)⟩ (up_t (x := x_13) (by omega)))
end
