noncomputable section
/-! DONE: the rooms' cells, the sets of rooms -/
theorem and1 (y : Int32) : y &&& ci 1 = ci 0 ∨ y &&& ci 1 = ci 1 := by
  have h1 : (y &&& ci 1).toBitVec = y.toBitVec &&& 1#32 := rfl
  have h2 : (y.toBitVec &&& 1#32).toNat = y.toBitVec.toNat % 2 := by
    rw [BitVec.toNat_and]; exact Nat.and_two_pow_sub_one_eq_mod _ 1
  have h3 : y.toBitVec.toNat % 2 = 0 ∨ y.toBitVec.toNat % 2 = 1 := by omega
  rcases h3 with h | h
  · refine Or.inl (Int32.toBitVec_inj.mp ?_)
    rw [h1]
    exact BitVec.eq_of_toNat_eq (by rw [h2, h]; rfl)
  · refine Or.inr (Int32.toBitVec_inj.mp ?_)
    rw [h1]
    exact BitVec.eq_of_toNat_eq (by rw [h2, h]; rfl)
theorem nz38 : ¬ (ci 1 : Int32) = 0 := by decide
theorem ze38 : (ci 0 : Int32) = 0 := by decide
/-- room k is in the set x -/
abbrev inS (x : Int32) (k : Nat) : Prop := (x >>> (cn k &&& 31)) &&& ci 1 = ci 1
theorem inS_0 {x : Int32} {k : Nat} : (x >>> (cn k &&& 31)) &&& ci 1 = 0 ↔ ¬ inS x k := by

  constructor
  · intro h q
    have q2 : (x >>> (cn k &&& 31)) &&& ci 1 = ci 1 := q
    exact absurd (h.symm.trans q2) (by decide)
  · intro h
    exact (and1 _).resolve_right h
def wrS (f : Nat → Int32) (x : Int32) : Nat → Int32
  | 0 => ci 0
  | k + 1 => wrS f x k + (if inS x k then f (4 * k + 3) else ci 0)
theorem wrS_1 {f : Nat → Int32} {x : Int32} {k : Nat} (hb : inS x k) : wrS f x (k + 1) = wrS f x k + f (4 * k + 3) := by
  show wrS f x k + _ = _
  rw [if_pos hb]
theorem wrS_0 {f : Nat → Int32} {x : Int32} {k : Nat} (hb : ¬ inS x k) : wrS f x (k + 1) = wrS f x k + ci 0 := by
  show wrS f x k + _ = _
  rw [if_neg hb]
def mnS (f : Nat → Int32) (x d : Int32) : Nat → Int32
  | 0 => ci 0
  | k + 1 => mnS f x d k + (if inS x k ∧ ¬ d < f (4 * k + 2) then f (4 * k + 1) else ci 0)
def fitQ (f : Nat → Int32) (x : Int32) (n k : Nat) : Prop := inS x k → mnS f x (f (4 * k + 2)) n ≤ f (4 * k + 2)
def cdS (f : Nat → Int32) (x : Int32) (n : Nat) : Prop := ∀ k, k < n → fitQ f x n k
def bcC (a1 : Int32) : Int32 :=
  let v1 : Int32 := (a1 - ((ushr a1 (ci 1)) &&& (ci 1431655765)))
  let v2 : Int32 := ((v1 &&& (ci 858993459)) + ((ushr v1 (ci 2)) &&& (ci 858993459)))
  let v3 : Int32 := ((v2 + (ushr v2 (ci 4))) &&& (ci 252645135))
  let v4 : Int32 := (v3 + (ushr v3 (c8 8)))
  let v5 : Int32 := (v4 + (ushr v4 (c8 16)))
  v5 &&& (c8 63)
def bcR (x : Int32) : Nat → Int32
  | 0 => ci 0
  | k + 1 => bcR x k + ((x >>> (cn k &&& 31)) &&& ci 1)
theorem bc_eq : ∀ k, k < 256 → bcC (cn k) = bcR (cn k) 12 := by decide +kernel
theorem V_bitC {s : mG} {a : Int32} : F_J6_bitCount_0f7a4 s a = some (bcC a) := rfl
def betS (f : Nat → Int32) (n : Nat) (a b : Int32) : Prop := 0 < wrS f a n - wrS f b n ∨ (wrS f a n - wrS f b n = 0 ∧ ¬ bcC b ≤ bcC a)
def brS (f : Nat → Int32) (n : Nat) : Nat → Int32
  | 0 => ci 0
  | k + 1 => @ite Int32 (cdS f (cn (k + 1)) n ∧ betS f n (cn (k + 1)) (brS f n k)) (Classical.propDecidable _) (cn (k + 1)) (brS f n k)
theorem br_b {f : Nat → Int32} {n : Nat} : ∀ k, ∃ m, m ≤ k ∧ brS f n k = cn m := by
  intro k
  induction k with
  | zero => exact ⟨0, Nat.le_refl _, rfl⟩
  | succ k ih =>
    obtain ⟨m, h1, h2⟩ := ih
    unfold brS
    by_cases h : cdS f (cn (k + 1)) n ∧ betS f n (cn (k + 1)) (brS f n k)
    · rw [if_pos h]; exact ⟨k + 1, Nat.le_refl _, rfl⟩
    · rw [if_neg h]; exact ⟨m, by omega, h2⟩
theorem sh1 : ∀ n, n < 9 → (ci 1) <<< (cn n &&& 31) = cn (2 ^ n) := by decide +kernel
theorem p28 : ∀ n, n < 9 → 2 ^ n ≤ 256 ∧ 0 < 2 ^ n := by decide
/-! the class -/
section CL
variable {s : mG} {n : Nat}
def RMc (s : mG) (n : Nat) : Prop := n ≤ 8 ∧ s.1 14 3 = cn n ∧ s.1 14 1 = cn 4
theorem V_room3 (h : RMc s n) {k c : Nat} {cc : Int32} (hk : k < n) (hc : c < 4) (e : cc = cn c) : F_X10_at 14 s (cn k) cc = some (s.1 15 (4 * k + c)) := by
  have q := V_at (t := 14) (s := s) (a1 := cn k) (a2 := cc) (r := k) (c := c) (n := n) (W := 4) rfl e h.2.2 h.2.1 hk hc (by rw [show m_alen (14 + 1) = 32 by decide +kernel]; have := h.1; omega) (by have := h.1; omega)
  rw [q, Nat.mul_comm]
theorem V_worthC {x : Int32} (h : RMc s n) : pk (F_X9_worthOf s x) (fun v => v = wrS (s.1 15) x n) := by
  have hn := h.1
  unfold F_X9_worthOf F_X9_worthOf_L4
  refine pk_whl (fun v => v.1 = x ∧ ∃ k, k ≤ n ∧ v.2.2 = cn k ∧ v.2.1 = wrS (s.1 15) x k) ⟨rfl, 0, by omega, rfl, rfl⟩ (fun v hv => ?_)
  obtain ⟨x1, x2, x3⟩ := v
  obtain ⟨e1, k, hk, e3, e2⟩ := hv
  have e1 : x1 = x := e1
  have e2 : x2 = wrS (s.1 15) x k := e2
  have e3 : x3 = cn k := e3
  subst e1; subst e3; subst e2
  unfold F_X9_worthOf_B4 F_X9_worthOf_44
  dsimp only
  rw [h.2.1]
  by_cases hl : k = n
  · subst hl
    rw [if_pos ((cn_le (by omega) (by omega)).mpr (by omega))]
    exact pk_some (show _ = _ from rfl)
  · rw [if_neg (fun q => hl (by have := (cn_le (by omega) (by omega)).mp q; omega)), cnu (by omega)]
    by_cases hb : inS x1 k
    · rw [if_pos hb, V_room3 (cc := ci 3) (c := 3) h (by omega) (by decide) rfl, b1_some]
      exact pk_some (show _ ∧ _ from ⟨rfl, k + 1, by omega, rfl, (wrS_1 hb).symm⟩)
    · rw [if_neg hb]
      exact pk_some (show _ ∧ _ from ⟨rfl, k + 1, by omega, rfl, (wrS_0 hb).symm⟩)
theorem V_dueC {x d : Int32} (h : RMc s n) : pk (F_X9_minutesDueBy s x d) (fun v => v = mnS (s.1 15) x d n) := by
  have hn := h.1
  unfold F_X9_minutesDueBy F_X9_minutesDueBy_L5
  refine pk_whl (fun v => v.1 = x ∧ v.2.1 = d ∧ ∃ k, k ≤ n ∧ v.2.2.2 = cn k ∧ v.2.2.1 = mnS (s.1 15) x d k) ⟨rfl, rfl, 0, by omega, rfl, rfl⟩ (fun v hv => ?_)
  obtain ⟨x1, x2, x3, x4⟩ := v
  obtain ⟨e1, e2, k, hk, e4, e3⟩ := hv
  have e1 : x1 = x := e1
  have e2 : x2 = d := e2
  have e3 : x3 = mnS (s.1 15) x d k := e3
  have e4 : x4 = cn k := e4
  subst e1; subst e2; subst e3; subst e4
  unfold F_X9_minutesDueBy_B5 F_X9_minutesDueBy_51 F_X9_minutesDueBy_52 F_X9_minutesDueBy_77
  dsimp only
  rw [h.2.1]
  by_cases hl : k = n
  · subst hl
    rw [if_pos ((cn_le (by omega) (by omega)).mpr (by omega))]
    exact pk_some (show _ = _ from rfl)
  · rw [if_neg (fun q => hl (by have := (cn_le (by omega) (by omega)).mp q; omega)), cnu (by omega)]
    have no : ∀ c : ¬ (inS x1 k ∧ ¬ x2 < s.1 15 (4 * k + 2)), mnS (s.1 15) x1 x2 (k + 1) = mnS (s.1 15) x1 x2 k + ci 0 := fun c => by
      show mnS (s.1 15) x1 x2 k + _ = _
      rw [if_neg c]
    by_cases hb : inS x1 k
    · rw [if_pos hb, V_room3 (cc := ci 2) (c := 2) h (by omega) (by decide) rfl, b1_some]
      by_cases hd : x2 < s.1 15 (4 * k + 2)
      · rw [if_pos hd, if_pos ze38]
        exact pk_some (show _ ∧ _ from ⟨rfl, rfl, k + 1, by omega, rfl, (no (fun q => q.2 hd)).symm⟩)
      · rw [if_neg hd, if_neg nz38, V_room3 (cc := ci 1) (c := 1) h (by omega) (by decide) rfl, b1_some]
        refine pk_some (show _ ∧ _ from ⟨rfl, rfl, k + 1, by omega, rfl, ?_⟩)
        show _ = mnS (s.1 15) x1 x2 k + _
        rw [if_pos ⟨hb, hd⟩]
    · rw [if_neg hb, if_pos ze38]
      exact pk_some (show _ ∧ _ from ⟨rfl, rfl, k + 1, by omega, rfl, (no (fun q => hb q.1)).symm⟩)
theorem V_canC {x : Int32} (h : RMc s n) : pk (F_X9_canBeDone s x) (fun v => (v = ci 1 ∧ cdS (s.1 15) x n) ∨ (v = ci 0 ∧ ¬ cdS (s.1 15) x n)) := by
  have hn := h.1
  unfold F_X9_canBeDone F_X9_canBeDone_L2
  refine pk_whl (fun v => v.1 = x ∧ ∃ k, k ≤ n ∧ v.2 = cn k ∧ ∀ i, i < k → fitQ (s.1 15) x n i) ⟨rfl, 0, by omega, rfl, fun i hi => absurd hi (by omega)⟩ (fun v hv => ?_)
  obtain ⟨x1, x2⟩ := v
  obtain ⟨e1, k, hk, e2, q⟩ := hv
  have e1 : x1 = x := e1
  have e2 : x2 = cn k := e2
  subst e1; subst e2
  unfold F_X9_canBeDone_B2 F_X9_canBeDone_50
  dsimp only
  rw [h.2.1]
  by_cases hl : k = n
  · subst hl
    rw [if_pos ((cn_le (by omega) (by omega)).mpr (by omega))]
    exact pk_some (show _ ∨ _ from Or.inl ⟨rfl, q⟩)
  · rw [if_neg (fun q => hl (by have := (cn_le (by omega) (by omega)).mp q; omega)), cnu (by omega), V_room3 (cc := ci 2) (c := 2) h (by omega) (by decide) rfl, b1_some]
    have up : ∀ c : fitQ (s.1 15) x1 n k, ∀ i, i < k + 1 → fitQ (s.1 15) x1 n i := fun c i hi => by
      by_cases e : i = k
      · rw [e]; exact c
      · exact q i (by omega)
    by_cases hb : inS x1 k
    · rw [if_pos hb]
      refine pk_b1 (V_dueC h) (fun v6 hv6 => ?_)
      have hv6 : v6 = mnS (s.1 15) x1 (s.1 15 (4 * k + 2)) n := hv6
      subst hv6
      by_cases hm : mnS (s.1 15) x1 (s.1 15 (4 * k + 2)) n ≤ s.1 15 (4 * k + 2)
      · rw [if_pos hm]
        exact pk_some (show _ ∧ _ from ⟨rfl, k + 1, by omega, rfl, up (fun _ => hm)⟩)
      · rw [if_neg hm]
        exact pk_some (show _ ∨ _ from Or.inr ⟨rfl, fun c => hm (c k (by omega) hb)⟩)
    · rw [if_neg hb]
      exact pk_some (show _ ∧ _ from ⟨rfl, k + 1, by omega, rfl, up (fun c => absurd c hb)⟩)
theorem V_betC {a b : Int32} (h : RMc s n) : pk (F_X9_isBetter s a b) (fun v => (v = ci 1 ∧ betS (s.1 15) n a b) ∨ (v = ci 0 ∧ ¬ betS (s.1 15) n a b)) := by
  unfold F_X9_isBetter F_X9_isBetter_31 F_X9_isBetter_35
  refine pk_b1 (V_worthC h) (fun v2 e2 => pk_b1 (V_worthC h) (fun v4 e4 => ?_))
  have e2 : v2 = wrS (s.1 15) a n := e2
  have e4 : v4 = wrS (s.1 15) b n := e4
  subst e2; subst e4
  rw [V_bitC, V_bitC, b1_some, b1_some]
  unfold betS
  by_cases h0 : 0 < wrS (s.1 15) a n - wrS (s.1 15) b n
  · rw [if_pos h0]; exact pk_some (Or.inl ⟨rfl, Or.inl h0⟩)
  rw [if_neg h0]
  by_cases h1 : wrS (s.1 15) a n - wrS (s.1 15) b n = 0
  · rw [if_pos h1]
    by_cases h2 : bcC b ≤ bcC a
    · rw [if_pos h2]; exact pk_some (Or.inr ⟨rfl, fun q => q.elim h0 (fun q => q.2 h2)⟩)
    · rw [if_neg h2]; exact pk_some (Or.inl ⟨rfl, Or.inr ⟨h1, h2⟩⟩)
  · rw [if_neg h1]; exact pk_some (Or.inr ⟨rfl, fun q => q.elim h0 (fun q => h1 q.1)⟩)
theorem V_bestC (h : RMc s n) : pk (F_X9_bestRooms s) (fun v => v = brS (s.1 15) n (2 ^ n - 1)) := by
  have hn := h.1
  obtain ⟨p1, p2⟩ := p28 n (by omega)
  unfold F_X9_bestRooms F_X9_bestRooms_L4
  refine pk_whl (fun v => ∃ k, k + 1 ≤ 2 ^ n ∧ v.2 = cn (k + 1) ∧ v.1 = brS (s.1 15) n k) ⟨0, by omega, rfl, rfl⟩ (fun v hv => ?_)
  obtain ⟨x1, x2⟩ := v
  obtain ⟨k, hk, e2, e1⟩ := hv
  have e1 : x1 = brS (s.1 15) n k := e1
  have e2 : x2 = cn (k + 1) := e2
  subst e1; subst e2
  unfold F_X9_bestRooms_B4 F_X9_bestRooms_39
  dsimp only
  rw [h.2.1, sh1 n (by omega)]
  by_cases hl : k + 1 = 2 ^ n
  · rw [if_pos ((cn_le (by omega) (by omega)).mpr (by omega))]
    exact pk_some (show brS (s.1 15) n k = brS (s.1 15) n (2 ^ n - 1) by rw [show 2 ^ n - 1 = k by omega])
  · rw [if_neg (fun q => hl (by have := (cn_le (by omega) (by omega)).mp q; omega)), cnu (by omega)]
    have step : ∀ c : ¬ (cdS (s.1 15) (cn (k + 1)) n ∧ betS (s.1 15) n (cn (k + 1)) (brS (s.1 15) n k)), brS (s.1 15) n k = brS (s.1 15) n (k + 1) := fun c => (show brS (s.1 15) n (k + 1) = _ from if_neg c).symm
    refine pk_b1 (V_canC h) (fun v3 q3 => ?_)
    rcases q3 with ⟨e3, q3⟩ | ⟨e3, q3⟩
    · rw [e3, if_neg nz38]
      refine pk_b1 (V_betC h) (fun v6 q6 => ?_)
      rcases q6 with ⟨e6, q6⟩ | ⟨e6, q6⟩
      · rw [e6, if_neg nz38]
        exact pk_some (show ∃ _, _ from ⟨k + 1, by omega, rfl, (show brS (s.1 15) n (k + 1) = _ from if_pos ⟨q3, q6⟩).symm⟩)
      · rw [e6, if_pos ze38]
        exact pk_some (show ∃ _, _ from ⟨k + 1, by omega, rfl, step (fun c => q6 c.2)⟩)
    · rw [e3, if_pos ze38]
      exact pk_some (show ∃ _, _ from ⟨k + 1, by omega, rfl, step (fun c => q3 c.1)⟩)
end CL
/-! the reference -/
section RE
variable {s : mG} {n : Nat}
def RMr (s : mG) (n : Nat) : Prop := n ≤ 8 ∧ s.1 89 118 = cn n ∧ ∀ j, j < 4 * n → s.1 89 (203 + j) = s.1 15 j
theorem V_ofRoom (h : RMr s n) {k c : Nat} {cc : Int32} (hk : k < n) (hc : c < 4) (e : cc = cn c) : F_X12_ofRoom s (cn k) cc = some (s.1 15 (4 * k + c)) := by
  have hn := h.1
  have e2 : (c16 203 + (ci 4) * cn k) + cc = cn (203 + (4 * k + c)) := by
    rw [e, show (ci 4) * cn k = cn (4 * k) from cn_mul (a := 4) (by omega) (by omega) (by omega), show c16 203 + cn (4 * k) = cn (203 + 4 * k) from cn_add (a := 203) (by omega), cn_add (by omega), Nat.add_assoc]
  unfold F_X12_ofRoom
  rw [e2, if_neg (cn_ix (by omega) (by omega)), cn_nat (by omega), h.2.2 _ (by omega)]
theorem V_worthR {x : Int32} (h : RMr s n) : pk (F_X12_worthOfSet s x) (fun v => v = wrS (s.1 15) x n) := by
  have hn := h.1
  unfold F_X12_worthOfSet F_X12_worthOfSet_L4
  refine pk_whl (fun v => v.1 = x ∧ ∃ k, k ≤ n ∧ v.2.2 = cn k ∧ v.2.1 = wrS (s.1 15) x k) ⟨rfl, 0, by omega, rfl, rfl⟩ (fun v hv => ?_)
  obtain ⟨x1, x2, x3⟩ := v
  obtain ⟨e1, k, hk, e3, e2⟩ := hv
  have e1 : x1 = x := e1
  have e2 : x2 = wrS (s.1 15) x k := e2
  have e3 : x3 = cn k := e3
  subst e1; subst e3; subst e2
  unfold F_X12_worthOfSet_B4 F_X12_worthOfSet_35
  dsimp only
  rw [h.2.1]
  by_cases hl : k = n
  · subst hl
    rw [if_pos ((cn_le (by omega) (by omega)).mpr (by omega))]
    exact pk_some (show _ = _ from rfl)
  · rw [if_neg (fun q => hl (by have := (cn_le (by omega) (by omega)).mp q; omega)), cnu (by omega)]
    by_cases hb : inS x1 k
    · rw [if_pos hb, V_ofRoom (cc := ci 3) (c := 3) h (by omega) (by decide) rfl, b1_some]
      exact pk_some (show _ ∧ _ from ⟨rfl, k + 1, by omega, rfl, (wrS_1 hb).symm⟩)
    · rw [if_neg hb]
      exact pk_some (show _ ∧ _ from ⟨rfl, k + 1, by omega, rfl, (wrS_0 hb).symm⟩)
theorem V_countR {x : Int32} : pk (F_X12_count s x) (fun v => v = bcR x 12) := by
  unfold F_X12_count F_X12_count_L4
  refine pk_whl (fun v => v.1 = x ∧ ∃ k, k ≤ 12 ∧ v.2.2 = cn k ∧ v.2.1 = bcR x k) ⟨rfl, 0, by omega, rfl, rfl⟩ (fun v hv => ?_)
  obtain ⟨x1, x2, x3⟩ := v
  obtain ⟨e1, k, hk, e3, e2⟩ := hv
  have e1 : x1 = x := e1
  have e2 : x2 = bcR x k := e2
  have e3 : x3 = cn k := e3
  subst e1; subst e3; subst e2
  have q12 : (c8 12 ≤ cn k) ↔ 12 ≤ k := cn_le (a := 12) (by omega) (by omega)
  unfold F_X12_count_B4
  by_cases hl : k = 12
  · subst hl
    rw [if_pos (q12.mpr (by omega))]
    exact pk_some (show _ = _ from rfl)
  · rw [if_neg (fun q => hl (by have := q12.mp q; omega)), cnu (by omega)]
    exact pk_some (show _ ∧ _ from ⟨rfl, k + 1, by omega, rfl, rfl⟩)
theorem V_canR {x : Int32} (h : RMr s n) : pk (F_X12_canDo s x) (fun v => (v = ci 1 ∧ cdS (s.1 15) x n) ∨ (v = ci 0 ∧ ¬ cdS (s.1 15) x n)) := by
  have hn := h.1
  unfold F_X12_canDo F_X12_canDo_L2
  refine pk_whl (fun v => v.1 = x ∧ ∃ k, k ≤ n ∧ v.2 = cn k ∧ ∀ i, i < k → fitQ (s.1 15) x n i) ⟨rfl, 0, by omega, rfl, fun i hi => absurd hi (by omega)⟩ (fun v hv => ?_)
  obtain ⟨x1, x2⟩ := v
  obtain ⟨e1, k, hk, e2, q⟩ := hv
  have e1 : x1 = x := e1
  have e2 : x2 = cn k := e2
  subst e1; subst e2
  unfold F_X12_canDo_B2
  dsimp only
  rw [h.2.1]
  by_cases hl : k = n
  · subst hl
    rw [if_pos ((cn_le (by omega) (by omega)).mpr (by omega))]
    exact pk_some (show _ ∨ _ from Or.inl ⟨rfl, q⟩)
  · rw [if_neg (fun q => hl (by have := (cn_le (by omega) (by omega)).mp q; omega))]
    have up : ∀ c : fitQ (s.1 15) x1 n k, ∀ i, i < k + 1 → fitQ (s.1 15) x1 n i := fun c i hi => by
      by_cases e : i = k
      · rw [e]; exact c
      · exact q i (by omega)
    by_cases hb : inS x1 k
    · rw [if_neg (fun e => inS_0.mp e hb)]
      unfold F_X12_canDo_L29
      refine pk_whl (fun v => v.1 = x1 ∧ v.2.1 = cn k ∧ ∃ i, i ≤ n ∧ v.2.2.2 = cn i ∧ v.2.2.1 = mnS (s.1 15) x1 (s.1 15 (4 * k + 2)) i) ⟨rfl, rfl, 0, by omega, rfl, rfl⟩ (fun v hv => ?_)
      obtain ⟨y1, y2, y3, y4⟩ := v
      obtain ⟨g1, g2, i, hi, g4, g3⟩ := hv
      have g1 : y1 = x1 := g1
      have g2 : y2 = cn k := g2
      have g3 : y3 = mnS (s.1 15) x1 (s.1 15 (4 * k + 2)) i := g3
      have g4 : y4 = cn i := g4
      subst g1; subst g2; subst g3; subst g4
      unfold F_X12_canDo_B29 F_X12_canDo_78 F_X12_canDo_79 F_X12_canDo_99
      dsimp only
      rw [h.2.1]
      by_cases hin : i = n
      · subst hin
        rw [if_pos ((cn_le (by omega) (by omega)).mpr (by omega)), V_ofRoom (cc := ci 2) (c := 2) h (by omega) (by decide) rfl, b1_some, b1_some, cnu (by omega)]
        by_cases hm : mnS (s.1 15) y1 (s.1 15 (4 * k + 2)) i ≤ s.1 15 (4 * k + 2)
        · rw [if_pos hm]
          exact pk_some (show _ ∧ _ from ⟨rfl, k + 1, by omega, rfl, up (fun _ => hm)⟩)
        · rw [if_neg hm]
          exact pk_some (show _ ∨ _ from Or.inr ⟨rfl, fun c => hm (c k (by omega) hb)⟩)
      · rw [if_neg (fun q => hin (by have := (cn_le (by omega) (by omega)).mp q; omega)), cnu (by omega)]
        have no : ∀ c : ¬ (inS y1 i ∧ ¬ s.1 15 (4 * k + 2) < s.1 15 (4 * i + 2)), mnS (s.1 15) y1 (s.1 15 (4 * k + 2)) (i + 1) = mnS (s.1 15) y1 (s.1 15 (4 * k + 2)) i + ci 0 := fun c => by
          show mnS (s.1 15) y1 (s.1 15 (4 * k + 2)) i + _ = _
          rw [if_neg c]
        by_cases hbi : inS y1 i
        · rw [if_pos hbi, V_ofRoom (cc := ci 2) (c := 2) h (by omega) (by decide) rfl, b1_some, V_ofRoom (cc := ci 2) (c := 2) h (by omega) (by decide) rfl, b1_some]
          by_cases hd : s.1 15 (4 * k + 2) < s.1 15 (4 * i + 2)
          · rw [if_pos hd]
            exact pk_some (show _ ∧ _ from ⟨rfl, rfl, i + 1, by omega, rfl, (no (fun q => q.2 hd)).symm⟩)
          · rw [if_neg hd, V_ofRoom (cc := ci 1) (c := 1) h (by omega) (by decide) rfl, b1_some]
            refine pk_some (show _ ∧ _ from ⟨rfl, rfl, i + 1, by omega, rfl, ?_⟩)
            show _ = mnS (s.1 15) y1 (s.1 15 (4 * k + 2)) i + _
            rw [if_pos ⟨hbi, hd⟩]
        · rw [if_neg hbi]
          exact pk_some (show _ ∧ _ from ⟨rfl, rfl, i + 1, by omega, rfl, (no (fun q => hbi q.1)).symm⟩)
    · rw [if_pos (inS_0.mpr hb)]
      unfold F_X12_canDo_99
      rw [cnu (by omega)]
      exact pk_some (show _ ∧ _ from ⟨rfl, k + 1, by omega, rfl, up (fun c => absurd c hb)⟩)
theorem V_doneR {a1 : Int32} (h : RMr s n) : pk (F_X12_done s a1) (fun v => v = if wi a1 (ci 0) (ci 1) = 0 then ci (-1) else if a1 = 0 then wrS (s.1 15) (brS (s.1 15) n (2 ^ n - 1)) n else brS (s.1 15) n (2 ^ n - 1)) := by
  have hn := h.1
  obtain ⟨p1, p2⟩ := p28 n (by omega)
  unfold F_X12_done
  rw [F_isIn, b1_some]
  by_cases hw : wi a1 (ci 0) (ci 1) = 0
  · rw [if_pos hw, if_pos hw]; exact pk_some rfl
  rw [if_neg hw, if_neg hw]
  unfold F_X12_done_L15
  refine pk_whl (fun v => v.1 = a1 ∧ ∃ k, k + 1 ≤ 2 ^ n ∧ v.2.2 = cn (k + 1) ∧ v.2.1 = brS (s.1 15) n k) ⟨rfl, 0, by omega, rfl, rfl⟩ (fun v hv => ?_)
  obtain ⟨x1, x2, x3⟩ := v
  obtain ⟨e1, k, hk, e3, e2⟩ := hv
  have e1 : x1 = a1 := e1
  have e2 : x2 = brS (s.1 15) n k := e2
  have e3 : x3 = cn (k + 1) := e3
  subst e1; subst e2; subst e3
  unfold F_X12_done_B15 F_X12_done_73 F_X12_done_75
  dsimp only
  rw [h.2.1, sh1 n (by omega)]
  by_cases hl : k + 1 = 2 ^ n
  · rw [if_pos ((cn_le (by omega) (by omega)).mpr (by omega)), show 2 ^ n - 1 = k by omega]
    by_cases h0 : x1 = 0
    · rw [if_pos h0, if_pos h0]
      exact pk_b1 (V_worthR h) (fun v hv => pk_some (show v = _ from hv))
    · rw [if_neg h0, if_neg h0]
      exact pk_some (show _ = _ from rfl)
  · rw [if_neg (fun q => hl (by have := (cn_le (by omega) (by omega)).mp q; omega)), cnu (by omega)]
    have stay : ∀ c : ¬ (cdS (s.1 15) (cn (k + 1)) n ∧ betS (s.1 15) n (cn (k + 1)) (brS (s.1 15) n k)), brS (s.1 15) n k = brS (s.1 15) n (k + 1) := fun c => (show brS (s.1 15) n (k + 1) = _ from if_neg c).symm
    have go : ∀ c : (cdS (s.1 15) (cn (k + 1)) n ∧ betS (s.1 15) n (cn (k + 1)) (brS (s.1 15) n k)), cn (k + 1) = brS (s.1 15) n (k + 1) := fun c => (show brS (s.1 15) n (k + 1) = _ from if_pos c).symm
    refine pk_b1 (V_canR h) (fun v9 q9 => ?_)
    rcases q9 with ⟨e9, q9⟩ | ⟨e9, q9⟩
    · rw [e9, if_neg nz38]
      refine pk_b1 (V_worthR h) (fun v12 e12 => pk_b1 (V_worthR h) (fun v14 e14 => ?_))
      have e12 : v12 = wrS (s.1 15) (cn (k + 1)) n := e12
      have e14 : v14 = wrS (s.1 15) (brS (s.1 15) n k) n := e14
      subst e12; subst e14
      by_cases h0 : 0 < wrS (s.1 15) (cn (k + 1)) n - wrS (s.1 15) (brS (s.1 15) n k) n
      · rw [if_pos h0]
        exact pk_some (show _ ∧ _ from ⟨rfl, k + 1, by omega, rfl, go ⟨q9, Or.inl h0⟩⟩)
      rw [if_neg h0]
      by_cases h1 : wrS (s.1 15) (cn (k + 1)) n - wrS (s.1 15) (brS (s.1 15) n k) n = 0
      · rw [if_pos h1]
        refine pk_b1 V_countR (fun v18 e18 => pk_b1 V_countR (fun v20 e20 => ?_))
        have e18 : v18 = bcR (cn (k + 1)) 12 := e18
        have e20 : v20 = bcR (brS (s.1 15) n k) 12 := e20
        obtain ⟨m, hm, em⟩ := br_b (f := s.1 15) (n := n) k
        have c18 : v18 = bcC (cn (k + 1)) := e18.trans (bc_eq (k + 1) (by omega)).symm
        have c20 : v20 = bcC (brS (s.1 15) n k) := by rw [e20, em]; exact (bc_eq m (by omega)).symm
        rw [c18, c20]
        by_cases h2 : bcC (brS (s.1 15) n k) ≤ bcC (cn (k + 1))
        · rw [if_pos h2]
          exact pk_some (show _ ∧ _ from ⟨rfl, k + 1, by omega, rfl, stay (fun c => c.2.elim h0 (fun q => q.2 h2))⟩)
        · rw [if_neg h2]
          exact pk_some (show _ ∧ _ from ⟨rfl, k + 1, by omega, rfl, go ⟨q9, Or.inr ⟨h1, h2⟩⟩⟩)
      · rw [if_neg h1]
        exact pk_some (show _ ∧ _ from ⟨rfl, k + 1, by omega, rfl, stay (fun c => c.2.elim h0 (fun q => h1 q.1))⟩)
    · rw [e9, if_pos ze38]
      exact pk_some (show _ ∧ _ from ⟨rfl, k + 1, by omega, rfl, stay (fun c => q9 c.1)⟩)
end RE
theorem V_doneC {s : mG} {n : Nat} {a1 : Int32} (h : RMc s n) : pk (F_X11_done s a1) (fun v => v = if wi a1 (ci 0) (ci 1) = 0 then ci (-1) else if a1 = 0 then wrS (s.1 15) (brS (s.1 15) n (2 ^ n - 1)) n else brS (s.1 15) n (2 ^ n - 1)) := by
  unfold F_X11_done
  rw [V_within, b1_some]
  by_cases hw : wi a1 (ci 0) (ci 1) = 0
  · rw [if_pos hw, if_pos hw]; exact pk_some rfl
  rw [if_neg hw, if_neg hw]
  refine pk_b1 (V_bestC h) (fun v5 e5 => ?_)
  have e5 : v5 = brS (s.1 15) n (2 ^ n - 1) := e5
  subst e5
  by_cases h0 : a1 = 0
  · rw [if_pos h0, if_pos h0]
    exact pk_b1 (V_worthC h) (fun v hv => pk_some hv)
  · rw [if_neg h0, if_neg h0]
    exact pk_some rfl
end
