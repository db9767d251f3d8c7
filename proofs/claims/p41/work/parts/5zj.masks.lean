noncomputable section
/-! SETS OF GUESTS AS BITS; a look; who saw the last goings -/
def btk (x : Int32) (i : Nat) : Bool := x.toBitVec.getLsbD i
theorem bt_ext {x y : Int32} (h : ∀ i, i < 32 → (btk x i = true ↔ btk y i = true)) : x = y := Int32.toBitVec_inj.mp (BitVec.eq_of_getLsbD_eq (fun i hi => Bool.eq_iff_iff.mpr (h i hi)))
theorem bt_or {x y : Int32} {i : Nat} : btk (x ||| y) i = (btk x i || btk y i) := by
  unfold btk
  rw [Int32.toBitVec_or, BitVec.getLsbD_or]
theorem bt_bit : ∀ k, k < 12 → ∀ i, i < 32 → btk (ci 1 <<< (cn k &&& 31)) i = decide (i = k) := by decide +kernel
theorem bt_0 : ∀ i, i < 32 → btk (ci 0) i = false := by decide +kernel
theorem bt_0n {i : Nat} (hi : i < 32) : ¬ btk (ci 0) i = true := by
  rw [bt_0 i hi]; decide
theorem sh_0 : ∀ k, k < 12 → ci 0 <<< (cn k &&& 31) = ci 0 := by decide +kernel
theorem cn_nm1 {k : Nat} (h : k < 2147483648) : ¬ cn k = ci (-1) := fun q => absurd (congrArg Int32.toInt q) (by rw [t_cn h, show (ci (-1)).toInt = -1 by decide]; omega)
theorem KI_c {s : mG} {n g : Nat} (hI : IM s) (g2 : s.1 89 112 = cn n) (hn : n ≤ 12) (hg : g < n) : s.1 89 (15 + g) = ci (-1) ∨ ∃ k, k < n ∧ s.1 89 (15 + g) = cn k := by
  have q := hI.2.1.2.1 g (by omega) (by rw [g2, t_cn (by omega)]; omega)
  rw [g2, t_cn (by omega)] at q
  by_cases h : s.1 89 (15 + g) = ci (-1)
  · exact Or.inl h
  · have h0 : ¬ (s.1 89 (15 + g)).toInt = -1 := fun e => h (Int32.toInt_inj.mp (by rw [e]; decide))
    have h1 : 0 ≤ (s.1 89 (15 + g)).toInt := by have := q.1; omega
    exact Or.inr ⟨(s.1 89 (15 + g)).toInt.toNat, by have := q.2; omega, cnof h1⟩
theorem KI_j {s : mG} {n g g' : Nat} (hI : IM s) (g2 : s.1 89 112 = cn n) (hn : n ≤ 12) (hg : g < n) (hg' : g' < n) (e : s.1 89 (15 + g) = s.1 89 (15 + g')) (e2 : ¬ s.1 89 (15 + g) = ci (-1)) : g = g' :=
  hI.2.1.2.2 g g' (by omega) (by omega) (by rw [g2, t_cn (by omega)]; omega) (by rw [g2, t_cn (by omega)]; omega) e e2
theorem V_keyIs {s : mG} {n : Nat} {x : Int32} (H : HSr 1 s.1 (s.1 89)) (e2 : s.1 2 3 = cn n) (hn : n ≤ 12) : pk (F_X2_keyOn 1 s x) (fun v => (v = ci (-1) ∧ ∀ g, g < n → ¬ s.1 89 (15 + g) = x) ∨ ∃ g, g < n ∧ v = cn g ∧ s.1 89 (15 + g) = x) := by
  unfold F_X2_keyOn F_X2_keyOn_L2
  refine pk_whl (fun v => v.1 = x ∧ ∃ r, r ≤ n ∧ v.2 = cn r ∧ ∀ g, g < r → ¬ s.1 89 (15 + g) = x) ⟨rfl, 0, Nat.zero_le _, rfl, fun g hg => absurd hg (by omega)⟩ (fun v hv => ?_)
  obtain ⟨x1, x2⟩ := v
  obtain ⟨e1o, r, hr, e3o, hno⟩ := hv
  have e1 : x = x1 := (show x1 = x from e1o).symm
  have e3 : x2 = cn r := e3o
  subst e1; subst e3
  unfold F_X2_keyOn_B2
  dsimp only
  rw [show s.1 (1 + 1) 3 = cn n from e2]
  by_cases hrn : n ≤ r
  · rw [if_pos ((cn_le (by omega) (by omega)).mpr hrn)]
    exact pk_some (Or.inl ⟨rfl, fun g hg => hno g (by omega)⟩)
  · rw [if_neg (fun q => hrn ((cn_le (by omega) (by omega)).mp q)), show (1 + 1 : Nat) = 2 from rfl, V_atG (c := 3) (k := ci 3) H.1 e2 hn (by omega) (by decide) rfl, b1_some, show ixG r 3 = 15 + r from rfl]
    by_cases e : s.1 89 (15 + r) = x
    · rw [if_pos e]; exact pk_some (Or.inr ⟨r, by omega, rfl, e⟩)
    · rw [if_neg e]
      refine pk_some (show _ ∧ ∃ r', _ from ⟨rfl, r + 1, by omega, cnu (by omega), fun g hg => ?_⟩)
      by_cases q : g = r
      · rw [q]; exact e
      · exact hno g (by omega)
/-- the hooks with keys, as bits -/
def HkC (s : mG) (n k : Nat) (x : Int32) : Prop := ∀ i, i < 32 → (btk x i = true ↔ i < k ∧ ∃ g, g < n ∧ s.1 89 (15 + g) = cn i)
def HkR (s : mG) (k : Nat) (x : Int32) : Prop := ∀ i, i < 32 → (btk x i = true ↔ ∃ g, g < k ∧ s.1 89 (15 + g) = cn i)
theorem V_hookSet {s : mG} {n : Nat} (H : HSr 1 s.1 (s.1 89)) (e2 : s.1 2 3 = cn n) (hn : n ≤ 12) : pk (F_X2_hookSet 1 s) (HkC s n n) := by
  unfold F_X2_hookSet F_X2_hookSet_L4
  refine pk_whl (fun v => ∃ k, k ≤ n ∧ v.2 = cn k ∧ HkC s n k v.1) ⟨0, Nat.zero_le _, rfl, fun i hi => ⟨fun q => absurd q (bt_0n hi), fun q => absurd q.1 (by omega)⟩⟩ (fun v hv => ?_)
  obtain ⟨x1, x2⟩ := v
  obtain ⟨k, hk, eo, hbo⟩ := hv
  have e : x2 = cn k := eo
  have hb : HkC s n k x1 := hbo
  subst e
  unfold F_X2_hookSet_B4
  dsimp only
  rw [show s.1 (1 + 1) 3 = cn n from e2]
  by_cases hkn : n ≤ k
  · have ek : k = n := by omega
    rw [if_pos ((cn_le (by omega) (by omega)).mpr hkn)]
    rw [ek] at hb
    exact pk_some hb
  · rw [if_neg (fun q => hkn ((cn_le (by omega) (by omega)).mp q)), V_hasKey, b1_b1]
    have st : ∀ d : Int32, (∀ i, i < 32 → (btk d i = true ↔ i = k ∧ ∃ g, g < n ∧ s.1 89 (15 + g) = cn k)) → pk (F_X2_hookSet_31 1 s (cn k) x1 d) (se (fun v => ∃ k, k ≤ n ∧ v.2 = cn k ∧ HkC s n k v.1) (HkC s n n)) := fun d hd => by
      unfold F_X2_hookSet_31
      refine pk_some (show ∃ k', _ from ⟨k + 1, by omega, cnu (by omega), fun i hi => ?_⟩)
      show btk (x1 ||| d) i = true ↔ _
      rw [bt_or, Bool.or_eq_true, hb i hi, hd i hi]
      constructor
      · intro q
        rcases q with q | q
        · exact ⟨by have := q.1; omega, q.2⟩
        · exact ⟨by have := q.1; omega, by rw [q.1]; exact q.2⟩
      · intro q
        by_cases ei : i = k
        · exact Or.inr ⟨ei, by rw [← ei]; exact q.2⟩
        · exact Or.inl ⟨by have := q.1; omega, q.2⟩
    refine pk_b1 (V_keyIs H e2 hn) (fun u q => ?_)
    rcases q with ⟨q1, q2⟩ | ⟨g, hg, q1, q2⟩
    · rw [if_pos q1, b1_some, if_pos c0e0]
      exact st (ci 0) (fun i hi => ⟨fun q => absurd q (bt_0n hi), fun q => (by obtain ⟨_, g, hg, q⟩ := q; exact absurd q (q2 g hg))⟩)
    · rw [if_neg (by rw [q1]; exact cn_nm1 (by omega)), b1_some, if_neg c1n0]
      exact st _ (fun i hi => by rw [bt_bit k (by omega) i hi]; exact ⟨fun q => ⟨of_decide_eq_true q, g, hg, q2⟩, fun q => decide_eq_true q.1⟩)
theorem V_hooksR {s : mG} {n : Nat} (hI : IM s) (g2 : s.1 89 112 = cn n) (hn : n ≤ 12) : pk (F_X12_hooksWithKeys s) (HkR s n) := by
  unfold F_X12_hooksWithKeys F_X12_hooksWithKeys_L4
  refine pk_whl (fun v => ∃ k, k ≤ n ∧ v.2 = cn k ∧ HkR s k v.1) ⟨0, Nat.zero_le _, rfl, fun i hi => ⟨fun q => absurd q (bt_0n hi), fun q => (by obtain ⟨g, hg, _⟩ := q; exact absurd hg (by omega))⟩⟩ (fun v hv => ?_)
  obtain ⟨x1, x2⟩ := v
  obtain ⟨k, hk, eo, hbo⟩ := hv
  have e : x2 = cn k := eo
  have hb : HkR s k x1 := hbo
  subst e
  unfold F_X12_hooksWithKeys_B4
  dsimp only
  rw [g2]
  by_cases hkn : n ≤ k
  · have ek : k = n := by omega
    rw [if_pos ((cn_le (by omega) (by omega)).mpr hkn)]
    rw [ek] at hb
    exact pk_some hb
  · rw [if_neg (fun q => hkn ((cn_le (by omega) (by omega)).mp q)), show c8 15 + cn k = cn (15 + k) from cn_add (a := 15) (by omega), cn_nat (n := 15 + k) (by omega)]
    refine pk_nn ?_
    have st : ∀ d : Int32, (∀ i, i < 32 → (btk d i = true ↔ s.1 89 (15 + k) = cn i)) → pk (F_X12_hooksWithKeys_44 s (cn k) x1 d) (se (fun v => ∃ k, k ≤ n ∧ v.2 = cn k ∧ HkR s k v.1) (HkR s n)) := fun d hd => by
      unfold F_X12_hooksWithKeys_44
      refine pk_some (show ∃ k', _ from ⟨k + 1, by omega, cnu (by omega), fun i hi => ?_⟩)
      show btk (x1 ||| d) i = true ↔ _
      rw [bt_or, Bool.or_eq_true, hb i hi, hd i hi]
      constructor
      · intro q
        rcases q with q | q
        · obtain ⟨g, hg, q⟩ := q
          exact ⟨g, by omega, q⟩
        · exact ⟨k, by omega, q⟩
      · intro q
        obtain ⟨g, hg, q⟩ := q
        by_cases eg : g = k
        · rw [eg] at q; exact Or.inr q
        · exact Or.inl ⟨g, by omega, q⟩
    rcases KI_c hI g2 hn (show k < n by omega) with q | ⟨j, hj, q⟩
    · rw [if_pos q]
      exact st (ci 0) (fun i hi => ⟨fun p => absurd p (bt_0n hi), fun p => absurd (p.symm.trans q) (cn_nm1 (by omega))⟩)
    · rw [if_neg (by rw [q]; exact cn_nm1 (by omega))]
      refine pk_nn (st _ (fun i hi => ?_))
      rw [q, bt_bit j (by omega) i hi]
      exact ⟨fun p => by rw [of_decide_eq_true p], fun p => decide_eq_true ((cn_inj (by omega) (by omega)).mp p).symm⟩
theorem R_hooks {s : mG} {n : Nat} (hI : IM s) (H : HSr 1 s.1 (s.1 89)) (e2 : s.1 2 3 = cn n) (g2 : s.1 89 112 = cn n) (hn : n ≤ 12) : rel (F_X2_hookSet 1 s) (F_X12_hooksWithKeys s) (fun u v => u = v) := fun u hu v hv => by
  have q1 : HkC s n n u := V_hookSet H e2 hn u hu
  have q2 : HkR s n v := V_hooksR hI g2 hn v hv
  refine bt_ext (fun i hi => ?_)
  rw [q1 i hi, q2 i hi]
  refine ⟨fun q => q.2, fun q => ⟨?_, q⟩⟩
  obtain ⟨g, hg, q⟩ := q
  rcases KI_c hI g2 hn hg with p | ⟨j, hj, p⟩
  · exact absurd (q.symm.trans p) (cn_nm1 (by omega))
  · have := (cn_inj (by omega) (by omega)).mp (q.symm.trans p)
    omega
theorem R_outs {s : mG} {n : Nat} (H : HSr 1 s.1 (s.1 89)) (V : VIm n (s.1 89)) (e2 : s.1 2 3 = cn n) (g2 : s.1 89 112 = cn n) (hn : n ≤ 12) : rel (F_X2_outSet 1 s) (F_X12_outs s) (fun u v => u = v) := by
  unfold F_X2_outSet F_X12_outs F_X2_outSet_L4 F_X12_outs_L4
  refine rel_mono (rel_cong (fun v => ∃ r, r ≤ n ∧ v.2 = cn r) (Q := fun _ => True) ⟨0, Nat.zero_le _, rfl⟩ (fun v hv => ?_)) (fun u v q => q.1)
  obtain ⟨x1, x2⟩ := v
  obtain ⟨r, hr, e3o⟩ := hv
  have e3 : x2 = cn r := e3o
  subst e3
  unfold F_X2_outSet_B4 F_X12_outs_B4 F_X2_outSet_31 F_X2_isOut
  dsimp only
  rw [show s.1 (1 + 1) 3 = cn n from e2, g2]
  by_cases hrn : n ≤ r
  · rw [if_pos ((cn_le (by omega) (by omega)).mpr hrn), if_pos ((cn_le (by omega) (by omega)).mpr hrn)]
    exact rel_some ⟨rfl, trivial⟩
  rw [if_neg (fun q => hrn ((cn_le (by omega) (by omega)).mp q)), if_neg (fun q => hrn ((cn_le (by omega) (by omega)).mp q)), show (1 + 1 : Nat) = 2 from rfl, V_atG (c := 2) (k := ci 2) H.1 e2 hn (by omega) (by decide) rfl, b1_some, show ci 3 + cn r = cn (3 + r) from cn_add (a := 3) (by omega), cn_nat (n := 3 + r) (by omega), show ixG r 2 = 3 + r from rfl]
  refine rel_rg ?_
  rcases (V.2.2 r (by omega)).1 with k | k
  · rw [k, if_neg (show ¬ ci 0 = ci 1 by decide), b1_some, if_pos c0e0, sh_0 r (by omega)]
    exact rel_some ⟨rfl, r + 1, by omega, cnu (by omega)⟩
  · rw [k, if_pos rfl, b1_some, if_neg c1n0]
    exact rel_some ⟨rfl, r + 1, by omega, cnu (by omega)⟩
theorem R_look {s : mG} {x : Int32} (hI : IM s) (h : SIM s s) : rel (F_X11_look s x) (F_X12_look s x) (fun u v => u = v) := by
  obtain ⟨n, nb, nc, hn, hnb, e2, e4, e8, H, L, V, g2, g4⟩ := SIM_f h
  obtain ⟨_, ⟨c, _, _, _, _, _, _, _, _, p1, _, p3, _⟩, _⟩ := h
  obtain ⟨_, _, ⟨_, _, n6, _, h6, w6, _⟩, _, ⟨_, _, n10, _, h10, w10, _⟩, ⟨_, _, n12, _, h12, w12, _⟩, ⟨_, _, n14, _, h14, w14, _⟩, ⟨_, _, n16, _, h16, w16, _⟩, c8', c9, c10, c11⟩ := id H
  unfold F_X11_look F_X12_look F_X11_lookAtTold
  rw [b1_id, b1_id, b1_id, b1_id, b1_id]
  refine rel_ifs Iff.rfl (fun _ => rel_some (e2.trans g2.symm)) (fun _ => ?_)
  refine rel_ifs Iff.rfl (fun _ => rel_some c10) (fun _ => ?_)
  refine rel_ifs Iff.rfl (fun _ => R_outs H V e2 g2 hn) (fun _ => ?_)
  refine rel_ifs Iff.rfl (fun _ => R_hooks hI H e2 g2 hn) (fun _ => ?_)
  refine rel_ifs Iff.rfl (fun _ => rel_some c8') (fun _ => ?_)
  refine rel_ifs Iff.rfl (fun _ => rel_some c9) (fun _ => ?_)
  refine rel_ifs Iff.rfl (fun _ => rel_some (e4.trans g4.symm)) (fun _ => ?_)
  refine rel_ifs Iff.rfl (fun _ => rel_some c11) (fun _ => ?_)
  refine rel_ifs Iff.rfl (fun _ => rel_some (h6.trans w6.symm)) (fun _ => ?_)
  refine rel_ifs Iff.rfl (fun _ => rel_some (h10.trans w10.symm)) (fun _ => ?_)
  refine rel_ifs Iff.rfl (fun _ => rel_some (h12.trans w12.symm)) (fun _ => ?_)
  refine rel_ifs Iff.rfl (fun _ => rel_some (h14.trans w14.symm)) (fun _ => ?_)
  refine rel_ifs Iff.rfl (fun _ => rel_some (p1.trans p3.symm)) (fun _ => ?_)
  refine rel_ifs Iff.rfl (fun _ => rel_some (h16.trans w16.symm)) (fun _ => rel_some rfl)
/-! who saw a guest go last -/
def lg (s : mG) (x : Int32) : Nat → Int32
  | 0 => ci (-1)
  | k + 1 => if s.1 89 (235 + 5 * k + 1) = 0 ∧ s.1 89 (235 + 5 * k + 2) = x then s.1 89 (235 + 5 * k + 4) else lg s x k
theorem V_lastSaw {s : mG} {nb : Nat} {x : Int32} (g4 : s.1 89 2 = cn nb) (hnb : nb ≤ 150) : pk (F_X12_lastSawBy s x) (fun v => v = lg s x nb) := by
  unfold F_X12_lastSawBy F_X12_lastSawBy_L4
  refine pk_whl (fun v => v.1 = x ∧ ∃ r, r ≤ nb ∧ v.2.2 = cn r ∧ v.2.1 = lg s x r) ⟨rfl, 0, Nat.zero_le _, rfl, rfl⟩ (fun v hv => ?_)
  obtain ⟨x1, x2, x3⟩ := v
  obtain ⟨e1o, r, hr, e3o, e4o⟩ := hv
  have e1 : x = x1 := (show x1 = x from e1o).symm
  have e3 : x3 = cn r := e3o
  have e4 : x2 = lg s x r := e4o
  subst e1; subst e3
  unfold F_X12_lastSawBy_B4 F_X12_lastSawBy_58
  dsimp only
  rw [g4]
  by_cases hrn : nb ≤ r
  · have er : r = nb := by omega
    rw [if_pos ((cn_le (by omega) (by omega)).mpr hrn)]
    rw [er] at e4
    exact pk_some e4
  rw [if_neg (fun q => hrn ((cn_le (by omega) (by omega)).mp q)), show c16 235 + ci 5 * cn r + ci 1 = cn (235 + 5 * r + 1) from ei_B (c := 1) (by omega), show c16 235 + ci 5 * cn r + ci 2 = cn (235 + 5 * r + 2) from ei_B (c := 2) (by omega), show c16 235 + ci 5 * cn r + ci 4 = cn (235 + 5 * r + 4) from ei_B (c := 4) (by omega), cn_nat (n := 235 + 5 * r + 1) (by omega), cn_nat (n := 235 + 5 * r + 2) (by omega), cn_nat (n := 235 + 5 * r + 4) (by omega)]
  refine pk_nn ?_
  have st : ∀ y, y = lg s x (r + 1) → pk (some (Sum.inl (x, y, cn r + ci 1)) : Option ((Int32 × Int32 × Int32) ⊕ Int32)) (se (fun v : Int32 × Int32 × Int32 => v.1 = x ∧ ∃ r, r ≤ nb ∧ v.2.2 = cn r ∧ v.2.1 = lg s x r) (fun v : Int32 => v = lg s x nb)) := fun y hy => pk_some (show _ ∧ ∃ r', _ from ⟨rfl, r + 1, by omega, cnu (by omega), hy⟩)
  have lgs : lg s x (r + 1) = if s.1 89 (235 + 5 * r + 1) = 0 ∧ s.1 89 (235 + 5 * r + 2) = x then s.1 89 (235 + 5 * r + 4) else lg s x r := rfl
  by_cases k1 : s.1 89 (235 + 5 * r + 1) = 0
  · rw [if_pos k1]
    refine pk_nn ?_
    by_cases k2 : s.1 89 (235 + 5 * r + 2) = x
    · rw [if_pos k2]
      exact pk_nn (st _ (by rw [lgs, if_pos ⟨k1, k2⟩]))
    · rw [if_neg k2]
      exact st _ (by rw [lgs, if_neg (fun q => k2 q.2)]; exact e4)
  · rw [if_neg k1]
    exact st _ (by rw [lgs, if_neg (fun q => k1 q.1)]; exact e4)
theorem V_clerkOf {s : mG} {nb : Nat} {x : Int32} (H : HSr 1 s.1 (s.1 89)) (e4 : s.1 4 3 = cn nb) (hnb : nb ≤ 150) : pk (F_X8_clerkOfLastGoing s x) (fun v => v = lg s x nb) := by
  unfold F_X8_clerkOfLastGoing F_X8_clerkOfLastGoing_L13
  rw [e4]
  refine pk_whl (fun v => v.1 = x ∧ ∃ r, r ≤ nb ∧ v.2 = cn r - ci 1 ∧ lg s x nb = lg s x r) ⟨rfl, nb, Nat.le_refl _, rfl, rfl⟩ (fun v hv => ?_)
  obtain ⟨x1, x2⟩ := v
  obtain ⟨e1o, r, hr, e3o, e5⟩ := hv
  have e1 : x = x1 := (show x1 = x from e1o).symm
  have e3 : x2 = cn r - ci 1 := e3o
  subst e1; subst e3
  unfold F_X8_clerkOfLastGoing_B13 F_X8_clerkOfLastGoing_61
  dsimp only
  cases r with
  | zero =>
    rw [if_pos (by decide)]
    exact pk_some e5.symm
  | succ r =>
    have er : cn (r + 1) - ci 1 = cn r := by
      rw [show ci 1 = cn 1 from rfl, cn_sub (by omega) (by omega)]; rfl
    have em : cn r + ci (-1) = cn r - ci 1 := by rw [Int32.sub_eq_add_neg]; rfl
    rw [er, em, if_neg (cn_nn (by omega)), V_atB (c := 2) (k := ci 2) H.2.1 e4 hnb (by omega) (by decide) rfl, b1_some, V_atB (c := 1) (k := ci 1) H.2.1 e4 hnb (by omega) (by decide) rfl, b1_some, V_atB (c := 4) (k := ci 4) H.2.1 e4 hnb (by omega) (by decide) rfl, b1_some, show ixB r 2 = 235 + 5 * r + 2 from rfl, show ixB r 1 = 235 + 5 * r + 1 from rfl, show ixB r 4 = 235 + 5 * r + 4 from rfl]
    have lgs : lg s x (r + 1) = if s.1 89 (235 + 5 * r + 1) = 0 ∧ s.1 89 (235 + 5 * r + 2) = x then s.1 89 (235 + 5 * r + 4) else lg s x r := rfl
    have st : ¬ (s.1 89 (235 + 5 * r + 1) = 0 ∧ s.1 89 (235 + 5 * r + 2) = x) → pk (some (Sum.inl (x, cn r - ci 1)) : Option ((Int32 × Int32) ⊕ Int32)) (se (fun v : Int32 × Int32 => v.1 = x ∧ ∃ r, r ≤ nb ∧ v.2 = cn r - ci 1 ∧ lg s x nb = lg s x r) (fun v : Int32 => v = lg s x nb)) := fun q => pk_some (show _ ∧ ∃ r', _ from ⟨rfl, r, by omega, rfl, by rw [e5, lgs, if_neg q]⟩)
    by_cases k2 : s.1 89 (235 + 5 * r + 2) = x
    · rw [if_pos k2]
      by_cases k1 : s.1 89 (235 + 5 * r + 1) = 0
      · rw [if_pos k1]
        refine pk_some (show _ = _ from ?_)
        rw [e5, lgs, if_pos ⟨k1, k2⟩]
      · rw [if_neg k1]
        exact st (fun q => k1 q.1)
    · rw [if_neg k2]
      exact st (fun q => k2 q.2)
theorem R_tellsOn {s : mG} {x : Int32} (_ : IM s) (h : SIM s s) : rel (F_X11_tellsOn s x) (F_X12_tellsOn s x) (fun u v => u = v) := by
  obtain ⟨n, nb, nc, hn, hnb, e2, e4, e8, H, L, V, g2, g4⟩ := SIM_f h
  unfold F_X11_tellsOn F_X12_tellsOn
  rw [V_within, F_isIn, b1_some, b1_some]
  refine rel_ifs Iff.rfl (fun _ => rel_some rfl) (fun _ => ?_)
  rw [b1_id]
  unfold F_X8_outSeenBy F_X8_outSeenBy_L4 F_X12_tellsOn_L15
  refine rel_mono (rel_cong (fun v => v.1 = x ∧ ∃ r, r ≤ n ∧ v.2.2 = cn r) (Q := fun _ => True) ⟨rfl, 0, Nat.zero_le _, rfl⟩ (fun v hv => ?_)) (fun u v q => q.1)
  obtain ⟨x1, x2, x3⟩ := v
  obtain ⟨e1o, r, hr, e3o⟩ := hv
  have e1 : x = x1 := (show x1 = x from e1o).symm
  have e3 : x3 = cn r := e3o
  subst e1; subst e3
  unfold F_X8_outSeenBy_B4 F_X12_tellsOn_B15 F_X2_isOut F_X8_outSeenBy_45 F_X12_tellsOn_54 F_X8_outSeenBy_46 F_X12_tellsOn_55
  dsimp only
  rw [e2, g2]
  by_cases hrn : n ≤ r
  · rw [if_pos ((cn_le (by omega) (by omega)).mpr hrn), if_pos ((cn_le (by omega) (by omega)).mpr hrn)]
    exact rel_some ⟨rfl, trivial⟩
  rw [if_neg (fun q => hrn ((cn_le (by omega) (by omega)).mp q)), if_neg (fun q => hrn ((cn_le (by omega) (by omega)).mp q)), show (1 + 1 : Nat) = 2 from rfl, V_atG (c := 2) (k := ci 2) H.1 e2 hn (by omega) (by decide) rfl, b1_some, show ci 3 + cn r = cn (3 + r) from cn_add (a := 3) (by omega), cn_nat (n := 3 + r) (by omega), show ixG r 2 = 3 + r from rfl]
  refine rel_rg ?_
  by_cases k : s.1 89 (3 + r) = ci 1
  · rw [if_pos k, if_pos k, b1_some, if_neg c1n0]
    refine rel_l1 (V_clerkOf H e4 hnb) (fun u hu => rel_r1 (V_lastSaw g4 hnb) (fun v hv => ?_))
    have e : u = v := hu.trans hv.symm
    subst e
    refine rel_ifs Iff.rfl (fun _ => ?_) (fun _ => ?_)
    · exact rel_some ⟨rfl, rfl, r + 1, by omega, cnu (by omega)⟩
    · exact rel_some ⟨rfl, rfl, r + 1, by omega, cnu (by omega)⟩
  · rw [if_neg k, if_neg k, b1_some, if_pos c0e0]
    exact rel_some ⟨rfl, rfl, r + 1, by omega, cnu (by omega)⟩
end
