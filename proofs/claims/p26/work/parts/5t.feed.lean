noncomputable section
/-! FEED, BYTE BY BYTE, on both sides; END -/
theorem and255 (y : Int32) : (y &&& c16 255).toInt = ((y.toBitVec.toNat % 256 : Nat) : Int) := by
  have h1 : (y &&& c16 255).toBitVec = y.toBitVec &&& 255#32 := rfl
  have h2 : (y.toBitVec &&& 255#32).toNat = y.toBitVec.toNat % 256 := by
    rw [BitVec.toNat_and]; exact Nat.and_two_pow_sub_one_eq_mod _ 8
  show (y &&& c16 255).toBitVec.toInt = _
  rw [h1, BitVec.toInt_eq_toNat_of_lt (by rw [h2]; omega), h2]
theorem sr_nat (x : BitVec 32) (s : Nat) (hs : s = 24 ∨ s = 16 ∨ s = 8 ∨ s = 0) : (x.sshiftRight s).toNat % 256 = x.toNat / 2 ^ s % 256 := by
  have hx := x.isLt
  cases h : x.msb
  · rw [BitVec.sshiftRight_eq_of_msb_false h, BitVec.toNat_ushiftRight, Nat.shiftRight_eq_div_pow]
  · rw [BitVec.sshiftRight_eq_of_msb_true h, BitVec.toNat_not, BitVec.toNat_ushiftRight, BitVec.toNat_not, Nat.shiftRight_eq_div_pow]
    rcases hs with e | e | e | e <;> subst e <;> omega
theorem bs_nat {x c : Int32} {n : Nat} (h : (c.toBitVec.smod 32#32).toNat = n) : ((x >>> c) &&& c16 255).toInt = (((x.toBitVec.sshiftRight n).toNat % 256 : Nat) : Int) := by
  have h1 : (x >>> c).toBitVec = x.toBitVec.sshiftRight ((c.toBitVec.smod 32#32).toNat) := rfl
  rw [and255, h1, h]
theorem us_nat {x c : Int32} {n : Nat} (h : ((c.toUInt32 &&& Int32.toUInt32 31).toBitVec % 32#32).toNat = n) : ((ushr x c) &&& c16 255).toInt = ((x.toBitVec.toNat / 2 ^ n % 256 : Nat) : Int) := by
  have h1 : (ushr x c).toBitVec = x.toBitVec >>> ((c.toUInt32 &&& Int32.toUInt32 31).toBitVec % 32#32) := rfl
  rw [and255, h1, BitVec.ushiftRight_eq', h, BitVec.toNat_ushiftRight, Nat.shiftRight_eq_div_pow]
def dj (j : Nat) : Int32 := c8 24 - c8 8 * cn j
def btQ (x : Int32) (j : Nat) : Int32 := (x >>> (dj j &&& 31)) &&& c16 255
theorem bt_b {x : Int32} {j : Nat} : 0 ≤ (btQ x j).toInt ∧ (btQ x j).toInt ≤ 255 := by
  unfold btQ
  rw [and255]
  omega
theorem bt_u {x : Int32} {j : Nat} (h : j < 4) : ushr x (dj j) &&& c16 255 = btQ x j := by
  refine Int32.toInt_inj.mp ?_
  unfold btQ
  have e : j = 0 ∨ j = 1 ∨ j = 2 ∨ j = 3 := by omega
  rcases e with e | e | e | e <;> subst e
  · rw [us_nat (n := 24) (by decide +kernel), bs_nat (n := 24) (by decide +kernel), sr_nat _ _ (by omega)]
  · rw [us_nat (n := 16) (by decide +kernel), bs_nat (n := 16) (by decide +kernel), sr_nat _ _ (by omega)]
  · rw [us_nat (n := 8) (by decide +kernel), bs_nat (n := 8) (by decide +kernel), sr_nat _ _ (by omega)]
  · rw [us_nat (n := 0) (by decide +kernel), bs_nat (n := 0) (by decide +kernel), sr_nat _ _ (by omega)]
theorem dj_nn : ∀ j, j < 4 → ¬ dj j < 0 := by decide +kernel
theorem dj_up : ∀ j, j < 4 → dj j + ci (-8) = dj (j + 1) := by decide +kernel
theorem dj_0 : dj 0 = c8 24 := by decide +kernel
theorem dj_4 : dj 4 < 0 := by decide +kernel
theorem rm_4 : ∀ i, i < 20 → rm (cn i) (ci 4) = cn (i % 4) := by decide +kernel
/-- the byte that feed's i-th place takes -/
def w5 (a1 a2 a3 a4 a5 : Int32) (i : Nat) : Int32 := btQ (if 4 ≤ i then if 8 ≤ i then if 12 ≤ i then if 16 ≤ i then a5 else a4 else a3 else a2 else a1) (i % 4)
def FdQ (r c t l n : Nat) (g : Nat → Int32) (a u : mG) : Prop := u.1 r c = cn (l + n) ∧ (∀ i, i ≠ r → i ≠ t → u.1 i = a.1 i) ∧ (∀ k, k ≠ c → u.1 r k = a.1 r k) ∧ (∀ k, k < l → u.1 t k = a.1 t k) ∧ ∀ i, i < n → u.1 t (l + i) = g i
theorem FD_0 {r c t l : Nat} {g : Nat → Int32} {a : mG} (h : a.1 r c = cn l) : FdQ r c t l 0 g a a := ⟨h, fun _ _ _ => rfl, fun _ _ => rfl, fun _ _ => rfl, fun _ hi => absurd hi (by omega)⟩
theorem FD_step {r c t l n : Nat} {g : Nat → Int32} {a u : mG} {v : Int32} (hrt : r ≠ t) (f : FdQ r c t l n g a u) (hb : l + n + 1 < 2147483648) (hv : v = g n) : FdQ r c t l (n + 1) g a (mu (mu u.1 t (l + n) v) r c (mu u.1 t (l + n) v r c + ci 1), u.2) := by
  obtain ⟨f1, f2, f3, f4, f5⟩ := f
  subst hv
  refine ⟨?_, fun i h1 h2 => ?_, fun k hk => ?_, fun k hk => ?_, fun i hi => ?_⟩
  all_goals dsimp only
  · rw [mu_same, mu_row hrt, f1, cnu hb]; rfl
  · rw [mu_row h1, mu_row h2]; exact f2 i h1 h2
  · rw [mu_cell (Or.inr hk), mu_row hrt]; exact f3 k hk
  · rw [mu_row (Ne.symm hrt), mu_cell (Or.inr (by omega))]; exact f4 k hk
  · rw [mu_row (Ne.symm hrt)]
    by_cases e : i = n
    · subst e; exact mu_same
    · rw [mu_cell (Or.inr (by omega))]; exact f5 i (by omega)
/-! the class -/
theorem V_put64 {s : mG} {k : Nat} {v : Int32} (h : k < 400) : F_X11_put 64 (cn k) v s = some (mu s.1 64 k v, s.2) := by
  have h1 : mal 64 = some 400 := by decide +kernel
  have h2 : SH[64]? = some (.inl (0, 400, [])) := by decide +kernel
  unfold F_X11_put
  rw [if_neg (cn_nn (by omega)), h1, b1_some, if_neg (fun q => absurd ((cn_le (by omega) (by omega)).mp q) (by omega)), h2]
  simp only [bs]
  rw [if_neg (cn_ix h (by omega)), cn_nat (by omega)]
theorem V_take4 {g : Nat → Int32} {x : Int32} {l n : Nat} {z s : mG} (hg : ∀ i, i < 4 → g (n + i) = btQ x i) (f : FdQ 55 9 64 l n g z s) (hl : l + n + 4 ≤ 400) : pk (F_X7_takeFour x s) (FdQ 55 9 64 l (n + 4) g z) := by
  unfold F_X7_takeFour F_X7_takeFour_L3
  refine pk_whl (fun v => v.1 = x ∧ ∃ j, j ≤ 4 ∧ v.2.1 = dj j ∧ FdQ 55 9 64 l (n + j) g z v.2.2) ⟨rfl, 0, by omega, dj_0.symm, f⟩ (fun v hv => ?_)
  obtain ⟨x1, x2, u⟩ := v
  obtain ⟨e1, j, hj, e2, q⟩ := hv
  have e1 : x1 = x := e1
  have e2 : x2 = dj j := e2
  have q : FdQ 55 9 64 l (n + j) g z u := q
  subst e1; subst e2
  unfold F_X7_takeFour_B3
  by_cases h4 : j = 4
  · subst h4
    rw [if_pos dj_4]
    exact pk_some (show FdQ 55 9 64 l (n + 4) g z u from q)
  · have hj : j < 4 := by omega
    rw [if_neg (dj_nn j hj), q.1, V_put64 (by omega), b1_some]
    dsimp only
    have q2 := FD_step (v := ushr x1 (dj j) &&& c16 255) (by decide) q (by omega) (by rw [bt_u hj]; exact (hg j hj).symm)
    rw [dj_up j hj]
    exact pk_some (show _ ∧ _ from ⟨rfl, j + 1, by omega, rfl, q2⟩)
theorem V_feedC {a1 a2 a3 a4 a5 : Int32} {s : mG} {l : Nat} (h9 : s.1 55 9 = cn l) (hl : l ≤ 400) : pk (F_X11_feed a1 a2 a3 a4 a5 s) (fun τ => (l + 20 ≤ 400 ∧ FdQ 55 9 64 l 20 (w5 a1 a2 a3 a4 a5) s τ.2) ∨ (¬ l + 20 ≤ 400 ∧ τ.2 = s)) := by
  unfold F_X11_feed F_X7_hasSpaceFor
  have e20 : s.1 55 9 + c8 20 = cn (l + 20) := by rw [h9]; exact cn_add (b := 20) (by omega)
  have e400 : (c16 400 < cn (l + 20)) ↔ 400 < l + 20 := cn_lt (a := 400) (by omega) (by omega)
  rw [e20]
  by_cases h : l + 20 ≤ 400
  · rw [if_neg (fun q => absurd (e400.mp q) (by omega)), b1_some, if_neg c1n0]
    refine pk_b1 (V_take4 (n := 0) (g := w5 a1 a2 a3 a4 a5) (fun i hi => ?_) (FD_0 h9) (by omega)) (fun s5 f5 => ?_)
    · unfold w5
      rw [if_neg (by omega), show (0 + i) % 4 = i by omega]
    refine pk_b1 (V_take4 (fun i hi => ?_) f5 (by omega)) (fun s7 f7 => ?_)
    · unfold w5
      rw [if_pos (by omega), if_neg (by omega), show (0 + 4 + i) % 4 = i by omega]
    refine pk_b1 (V_take4 (fun i hi => ?_) f7 (by omega)) (fun s9 f9 => ?_)
    · unfold w5
      rw [if_pos (by omega), if_pos (by omega), if_neg (by omega), show (0 + 4 + 4 + i) % 4 = i by omega]
    refine pk_b1 (V_take4 (fun i hi => ?_) f9 (by omega)) (fun s11 f11 => ?_)
    · unfold w5
      rw [if_pos (by omega), if_pos (by omega), if_pos (by omega), if_neg (by omega), show (0 + 4 + 4 + 4 + i) % 4 = i by omega]
    refine pk_b1 (V_take4 (fun i hi => ?_) f11 (by omega)) (fun s13 f13 => ?_)
    · unfold w5
      rw [if_pos (by omega), if_pos (by omega), if_pos (by omega), if_pos (by omega), show (0 + 4 + 4 + 4 + 4 + i) % 4 = i by omega]
    exact pk_some (Or.inl ⟨h, f13⟩)
  · rw [if_pos (e400.mpr (by omega)), b1_some, if_pos c0e0]
    exact pk_some (Or.inr ⟨h, rfl⟩)
/-! the reference -/
theorem V_feed71 {g : Nat → Int32} {x1 x2 x3 x4 x5 y : Int32} {l i : Nat} {z u : mG} {P : Int32 × Int32 × Int32 × Int32 × Int32 × Int32 × mG → Prop} {Q : Int32 × mG → Prop} (hi : i < 20) (hl : l + 20 ≤ 400) (hg : g i = btQ y (i % 4)) (f : FdQ 88 15 95 l i g z u) (k : ∀ w, FdQ 88 15 95 l (i + 1) g z w → P (x1, x2, x3, x4, x5, cn (i + 1), w)) : pk (F_X12_feed_71 x1 x2 x3 x4 x5 (cn i) y u) (se P Q) := by
  unfold F_X12_feed_71
  rw [f.1, if_neg (cn_ix (by omega) (by omega)), cn_nat (by omega), rm_4 i hi, cnu (by omega)]
  dsimp only
  exact pk_some (show P _ from k _ (FD_step (v := (y >>> (dj (i % 4) &&& 31)) &&& c16 255) (by decide) f (by omega) hg.symm))
theorem V_feedR {a1 a2 a3 a4 a5 : Int32} {s : mG} {l : Nat} (h15 : s.1 88 15 = cn l) (hl : l ≤ 400) : pk (F_X12_feed a1 a2 a3 a4 a5 s) (fun τ => (l + 20 ≤ 400 ∧ FdQ 88 15 95 l 20 (w5 a1 a2 a3 a4 a5) s τ.2) ∨ (¬ l + 20 ≤ 400 ∧ τ.2 = s)) := by
  unfold F_X12_feed
  have e20 : s.1 88 15 + c8 20 = cn (l + 20) := by rw [h15]; exact cn_add (b := 20) (by omega)
  have e400 : (cn (l + 20) ≤ c16 400) ↔ l + 20 ≤ 400 := cn_le (b := 400) (by omega) (by omega)
  rw [e20]
  by_cases h : l + 20 ≤ 400
  · rw [if_pos (e400.mpr h)]
    unfold F_X12_feed_L18
    refine pk_whl (fun v => v.1 = a1 ∧ v.2.1 = a2 ∧ v.2.2.1 = a3 ∧ v.2.2.2.1 = a4 ∧ v.2.2.2.2.1 = a5 ∧ ∃ i, i ≤ 20 ∧ v.2.2.2.2.2.1 = cn i ∧ FdQ 88 15 95 l i (w5 a1 a2 a3 a4 a5) s v.2.2.2.2.2.2) ⟨rfl, rfl, rfl, rfl, rfl, 0, by omega, rfl, FD_0 h15⟩ (fun v hv => ?_)
    obtain ⟨x1, x2, x3, x4, x5, x6, u⟩ := v
    obtain ⟨e1, e2, e3, e4, e5, i, hi, e6, f⟩ := hv
    have e1 : x1 = a1 := e1
    have e2 : x2 = a2 := e2
    have e3 : x3 = a3 := e3
    have e4 : x4 = a4 := e4
    have e5 : x5 = a5 := e5
    have e6 : x6 = cn i := e6
    have f : FdQ 88 15 95 l i (w5 a1 a2 a3 a4 a5) s u := f
    subst e1; subst e2; subst e3; subst e4; subst e5; subst e6
    have q4 : (ci 4 ≤ cn i) ↔ 4 ≤ i := cn_le (a := 4) (by omega) (by omega)
    have q8 : (c8 8 ≤ cn i) ↔ 8 ≤ i := cn_le (a := 8) (by omega) (by omega)
    have q12 : (c8 12 ≤ cn i) ↔ 12 ≤ i := cn_le (a := 12) (by omega) (by omega)
    have q16 : (c8 16 ≤ cn i) ↔ 16 ≤ i := cn_le (a := 16) (by omega) (by omega)
    have q20 : (c8 20 ≤ cn i) ↔ 20 ≤ i := cn_le (a := 20) (by omega) (by omega)
    unfold F_X12_feed_B18
    by_cases h20 : 20 ≤ i
    · rw [if_pos (q20.mpr h20)]
      have hi : i = 20 := by omega
      subst hi
      exact pk_some (show _ ∨ _ from Or.inl ⟨h, f⟩)
    have hi : i < 20 := by omega
    have go : ∀ y, w5 x1 x2 x3 x4 x5 i = btQ y (i % 4) → pk (F_X12_feed_71 x1 x2 x3 x4 x5 (cn i) y u) (se (fun v => v.1 = x1 ∧ v.2.1 = x2 ∧ v.2.2.1 = x3 ∧ v.2.2.2.1 = x4 ∧ v.2.2.2.2.1 = x5 ∧ ∃ i, i ≤ 20 ∧ v.2.2.2.2.2.1 = cn i ∧ FdQ 88 15 95 l i (w5 x1 x2 x3 x4 x5) s v.2.2.2.2.2.2) (fun τ => (l + 20 ≤ 400 ∧ FdQ 88 15 95 l 20 (w5 x1 x2 x3 x4 x5) s τ.2) ∨ (¬ l + 20 ≤ 400 ∧ τ.2 = s))) :=
      fun y hg => V_feed71 hi h hg f (fun w q => ⟨rfl, rfl, rfl, rfl, rfl, i + 1, by omega, rfl, q⟩)
    rw [if_neg (fun q => h20 (q20.mp q))]
    by_cases h4 : 4 ≤ i
    · rw [if_pos (q4.mpr h4)]
      by_cases h8 : 8 ≤ i
      · rw [if_pos (q8.mpr h8)]
        by_cases h12 : 12 ≤ i
        · rw [if_pos (q12.mpr h12)]
          by_cases h16 : 16 ≤ i
          · rw [if_pos (q16.mpr h16)]
            exact go _ (by unfold w5; rw [if_pos h4, if_pos h8, if_pos h12, if_pos h16])
          · rw [if_neg (fun q => h16 (q16.mp q))]
            exact go _ (by unfold w5; rw [if_pos h4, if_pos h8, if_pos h12, if_neg h16])
        · rw [if_neg (fun q => h12 (q12.mp q))]
          exact go _ (by unfold w5; rw [if_pos h4, if_pos h8, if_neg h12])
      · rw [if_neg (fun q => h8 (q8.mp q))]
        exact go _ (by unfold w5; rw [if_pos h4, if_neg h8])
    · rw [if_neg (fun q => h4 (q4.mp q))]
      exact go _ (by unfold w5; rw [if_neg h4])
  · rw [if_neg (fun q => h (e400.mp q))]
    exact pk_some (Or.inr ⟨h, rfl⟩)
/-! end -/
theorem V_endC {a1 : Int32} {s : mG} : F_X11_end a1 s = if wi a1 (ci 0) (s.1 55 9) = 0 then some (ci 0, s) else some (ci 1, (mu s.1 55 9 a1, s.2)) := by
  unfold F_X11_end
  rw [V_within, b1_some]
theorem V_endR {a1 : Int32} {s : mG} : F_X12_end a1 s = if wi a1 (ci 0) (s.1 88 15) = 0 then some (ci 0, s) else some (ci 1, (mu s.1 88 15 a1, s.2)) := by
  unfold F_X12_end
  rw [F_isIn, b1_some]
theorem wi_cn {x : Int32} {l : Nat} (hl : l < 2147483648) (h : ¬ wi x (ci 0) (cn l) = 0) : ∃ m, m ≤ l ∧ x = cn m := by
  by_cases q : 0 ≤ x.toInt ∧ x.toInt ≤ l
  · exact ⟨x.toInt.toNat, by omega, cnof q.1⟩
  · exact absurd (wi_out (by rw [show (ci 0).toInt = 0 by decide, cn_t hl]; exact q)) h
end
