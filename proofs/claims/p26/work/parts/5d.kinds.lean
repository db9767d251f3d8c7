noncomputable section
/-! KINDS OF TOKENS, here and there -/
def mkI (r : Nat) (z : Int) : Int := if z = -1 then 0 else if z = -2 then 2 else if z < 0 then 1 else if z < 256 then (if z = 59 ∨ z = 43 ∨ z = 45 ∨ z = 42 ∨ z = 47 ∨ z = 40 ∨ z = 41 ∨ z = 60 ∨ z = 61 ∨ z = 62 then 100 + z else 1) else ((mw r (z - 256).toNat : Nat) : Int)
def KP (r : Nat) (kc kr : Int32) : Prop := kr.toInt = mkI r kc.toInt ∧ -3 ≤ kc.toInt ∧ kc.toInt ≤ 281
theorem mw_lt : ∀ r, r < 3 → ∀ w, w < 26 → mw r w < 100 := by decide +kernel
theorem KP_end {r : Nat} : KP r (ci (-1)) 0 := ⟨by rw [t_cm1, t_zero]; rfl, by rw [t_cm1]; omega, by rw [t_cm1]; omega⟩
theorem sg_t {x : Int32} (h0 : 0 ≤ x.toInt) (h1 : x.toInt ≤ 255) : (sg x).toInt = mkI 0 x.toInt := by
  have hb : ∀ n : Nat, n < 256 → (sg (cn n)).toInt = mkI 0 (n : Int) := by decide +kernel
  have e := cnof h0
  have h2 := hb x.toInt.toNat (by omega)
  rw [← e] at h2
  rw [h2, show ((x.toInt.toNat : Nat) : Int) = x.toInt by omega]
theorem mkI_byte {r : Nat} {z : Int} (h0 : 0 ≤ z) (h1 : z ≤ 255) : mkI r z = mkI 0 z := by
  have e : ∀ r, mkI r z = if z = 59 ∨ z = 43 ∨ z = 45 ∨ z = 42 ∨ z = 47 ∨ z = 40 ∨ z = 41 ∨ z = 60 ∨ z = 61 ∨ z = 62 then 100 + z else 1 := fun r => by
    unfold mkI
    rw [if_neg (by omega), if_neg (by omega), if_neg (by omega), if_pos (by omega)]
  rw [e r, e 0]
theorem isWd_one {T : Nat → Int32} {a b w v : Nat} (h : isWd T a b w) (k : isWd T a b v) : w = v := w_f6 w h.1 v k.1 (h.2.symm.trans k.2)
theorem KC_KR {r : Nat} {T : Nat → Int32} {len a b : Nat} {kc kr : Int32} (hr : r < 3) (hB : 0 ≤ (T a).toInt ∧ (T a).toInt ≤ 255) (ha : a < len) (h1 : KC T a b kc) (h2 : KR r T len a b kr) : KP r kc kr := by
  rcases h2 with ⟨q, _⟩ | ⟨_, h2⟩
  · omega
  rcases h1 with ⟨l1, h1⟩ | ⟨l1, d1, h1⟩ | ⟨l1, d1, h1⟩ <;> rcases h2 with ⟨l2, h2⟩ | ⟨l2, d2, h2⟩ | ⟨l2, d2, h2⟩ <;> first
    | exact absurd l2 l1
    | exact absurd l1 l2
    | exact absurd d2 d1
    | exact absurd d1 d2
    | skip
  · rcases h1 with ⟨w, hw, e⟩ | ⟨hn, e⟩
    · have h26 := hw.1
      have e1 : kc.toInt = 256 + (w : Int) := by
        rw [e]; exact r_add (by decide : (c16 256).toInt = 256) (t_cn (by omega)) (by omega) (by omega)
      have e2 : kr.toInt = ((mw r w : Nat) : Int) := by
        rcases h2 with ⟨v, hv, e2⟩ | ⟨hn, _⟩
        · have := isWd_one hw hv
          subst this
          rw [e2]; exact t_cn (by have := mw_lt r hr w h26; omega)
        · exact absurd hw (hn w)
      refine ⟨?_, by omega, by omega⟩
      rw [e1, e2]
      unfold mkI
      rw [if_neg (by omega), if_neg (by omega), if_neg (by omega), if_neg (by omega), show (256 + (w : Int) - 256).toNat = w by omega]
    · have e1 : kc.toInt = -3 := by rw [e]; decide
      have e2 : kr.toInt = 1 := by
        rcases h2 with ⟨v, hv, _⟩ | ⟨_, e2⟩
        · exact absurd hv (hn v)
        · rw [e2]; decide
      refine ⟨?_, by omega, by omega⟩
      rw [e1, e2]; rfl
  · rcases h1 with ⟨q1, e⟩ | ⟨q1, e⟩ <;> rcases h2 with ⟨q2, e2⟩ | ⟨q2, e2⟩
    · refine ⟨?_, ?_, ?_⟩ <;> rw [e]
      · rw [e2]; decide +revert
      · decide
      · decide
    · omega
    · omega
    · refine ⟨?_, ?_, ?_⟩ <;> rw [e]
      · rw [e2]; decide +revert
      · decide
      · decide
  · subst h1; subst h2
    exact ⟨(sg_t hB.1 hB.2).trans (mkI_byte hB.1 hB.2).symm, by omega, by omega⟩
theorem KP_iff {r : Nat} {kc kr K K' : Int32} {v z : Int} (hK : K.toInt = v) (hK' : K'.toInt = z) (hd : ∀ n : Nat, n < 285 → (mkI r ((n : Int) - 3) = v ↔ ((n : Int) - 3) = z)) (h : KP r kc kr) : kr = K ↔ kc = K' := by
  obtain ⟨h1, h2, h3⟩ := h
  have hn := hd (kc.toInt + 3).toNat (by omega)
  rw [show (((kc.toInt + 3).toNat : Nat) : Int) - 3 = kc.toInt by omega, ← h1] at hn
  constructor
  · intro e
    exact Int32.toInt_inj.mp ((hn.mp (by rw [e, hK])).trans hK'.symm)
  · intro e
    exact Int32.toInt_inj.mp ((hn.mpr (by rw [e, hK'])).trans hK.symm)
/-- two ranges -/
theorem KP_rng {r : Nat} {kc kr : Int32} {v w z y : Int} (hd : ∀ n : Nat, n < 285 → ((v ≤ mkI r ((n : Int) - 3) ∧ mkI r ((n : Int) - 3) ≤ w) ↔ (z ≤ ((n : Int) - 3) ∧ ((n : Int) - 3) ≤ y)) ∧ (z ≤ ((n : Int) - 3) ∧ ((n : Int) - 3) ≤ y → mkI r ((n : Int) - 3) - v = ((n : Int) - 3) - z)) (h : KP r kc kr) : ((v ≤ kr.toInt ∧ kr.toInt ≤ w) ↔ (z ≤ kc.toInt ∧ kc.toInt ≤ y)) ∧ (z ≤ kc.toInt ∧ kc.toInt ≤ y → kr.toInt - v = kc.toInt - z) := by
  obtain ⟨h1, h2, h3⟩ := h
  have hn := hd (kc.toInt + 3).toNat (by omega)
  rw [show (((kc.toInt + 3).toNat : Nat) : Int) - 3 = kc.toInt by omega, ← h1] at hn
  exact hn
end
