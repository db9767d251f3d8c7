noncomputable section
/-! THE BEST FROM A CLOCK ON, in the class -/
def rSt (D : Nat → Nat → Int32) (p : Int32) : Nat → Nat → Int32
  | 0, _ => ci 0
  | m + 1, d => D (23 - m) d + (if m = 0 then ci 0 else imax (rSt D p m 0 - (if d = 0 then ci 0 else p)) (rSt D p m 1 - (if d = 1 then ci 0 else p)))
theorem rSt_s {D : Nat → Nat → Int32} {p : Int32} {m d : Nat} : rSt D p (m + 1) d = D (23 - m) d + (if m = 0 then ci 0 else imax (rSt D p m 0 - (if d = 0 then ci 0 else p)) (rSt D p m 1 - (if d = 1 then ci 0 else p))) := rfl
theorem rSt_q {D : Nat → Nat → Int32} {p : Int32} {q d : Nat} (hq : q < 24) : rSt D p (24 - q) d = D q d + (if q = 23 then ci 0 else imax (rSt D p (24 - (q + 1)) 0 - (if d = 0 then ci 0 else p)) (rSt D p (24 - (q + 1)) 1 - (if d = 1 then ci 0 else p))) := by
  have e : 24 - q = (24 - (q + 1)) + 1 := by omega
  rw [e, rSt_s, show 23 - (24 - (q + 1)) = q by omega]
  by_cases h : q = 23
  · rw [if_pos h, if_pos (by omega)]
  · rw [if_neg h, if_neg (by omega)]
theorem V_restC {t : mG} {c d e : Nat} {p : Int32} (h1 : t.1 80 1 = cn 2) (h3 : t.1 80 3 = cn 24) (hc : c ≤ 24) (hd : d < 2) (he : e < 2) : F_X1_restFrom t (cn c) (cn d) (cn e) p = some (if c < 24 then t.1 81 (c * 2 + e) - (if d = e then ci 0 else p) else ci 0) := by
  unfold F_X1_restFrom F_X1_restFrom_30
  rw [show c8 24 = cn 24 by decide]
  by_cases h : c < 24
  · rw [if_pos ((cn_lt (by omega) (by omega)).mpr h), if_pos h, V_at80 h1 h3 (Nat.le_refl _) h he, b1_some]
    by_cases q : d = e
    · rw [if_pos (show cn d = cn e by rw [q]), if_pos q]
    · rw [if_neg (fun z => q ((cn_inj (by omega) (by omega)).mp z)), if_neg q]
  · rw [if_neg (fun z => h ((cn_lt (by omega) (by omega)).mp z)), if_neg h]
/-- what the plan leaves -/
def PLq (D : Nat → Nat → Int32) (p : Int32) (u : mG) : Prop := SHy u ∧ u.1 80 3 = cn 24 ∧ ∀ c, c < 24 → ∀ d, d < 2 → u.1 81 (c * 2 + d) = rSt D p (24 - c) d
theorem V_planL {D : Nat → Nat → Int32} {p : Int32} {a : mG} (hS : SHy a) (h3 : a.1 78 3 = cn 24) (h80 : a.1 80 3 = cn 24) (h79 : ∀ c, c < 24 → ∀ d, d < 2 → a.1 79 (c * 2 + d) = D c d) : pk (F_X1_plan_L52 p (c8 23) a) (PLq D p) := by
  unfold F_X1_plan_L52
  have st : c8 23 = cn 24 + ci (-1) := by decide
  refine pk_whl (fun v => ∃ (q : Nat) (t : mG), q ≤ 24 ∧ v = (p, cn q + ci (-1), t) ∧ (∀ j, j ≠ 81 → t.1 j = a.1 j) ∧ ∀ c, q ≤ c → c < 24 → ∀ d, d < 2 → t.1 81 (c * 2 + d) = rSt D p (24 - c) d) ⟨24, a, Nat.le_refl _, by rw [st], fun _ _ => rfl, fun c h1 h2 => absurd h1 (by omega)⟩ (fun v hv => ?_)
  obtain ⟨q, t, hq, ev, rt, ht⟩ := hv
  rw [ev]
  unfold F_X1_plan_B52
  dsimp only
  by_cases h0 : q = 0
  · rw [h0] at ht
    rw [h0, if_pos (by decide)]
    exact pk_some (show PLq D p t from ⟨SHy_row hS (rt 78 (by decide)) (rt 80 (by decide)), by rw [rt 80 (by decide)]; exact h80, fun c hc => ht c (by omega) hc⟩)
  obtain ⟨q', eq⟩ : ∃ q', q = q' + 1 := ⟨q - 1, by omega⟩
  rw [eq, cn_d2 (by omega), if_neg (cn_nn (by omega))]
  unfold F_X1_plan_L58
  refine pk_whl (fun v => ∃ (d : Nat) (t : mG), d ≤ 2 ∧ v = (p, cn q', cn d, t) ∧ (∀ j, j ≠ 81 → t.1 j = a.1 j) ∧ (∀ c, q ≤ c → c < 24 → ∀ d, d < 2 → t.1 81 (c * 2 + d) = rSt D p (24 - c) d) ∧ ∀ i, i < d → t.1 81 (q' * 2 + i) = rSt D p (24 - q') i) ⟨0, t, by omega, rfl, rt, ht, fun i hi => absurd hi (by omega)⟩ (fun v hv => ?_)
  obtain ⟨d, u, hd, ev, ru, hu, hi⟩ := hv
  rw [ev]
  unfold F_X1_plan_B58
  dsimp only
  by_cases h2 : 2 ≤ d
  · have ed : d = 2 := by omega
    rw [if_pos (show ci 2 ≤ cn d from (cn_le (a := 2) (by omega) (by omega)).mpr h2)]
    rw [ed] at hi
    exact pk_some (show ∃ (q : Nat) (t : mG), _ from ⟨q', u, by omega, rfl, ru, fun c h1 h2 => by
      by_cases e : c = q'
      · rw [e]; exact hi
      · exact hu c (by omega) h2⟩)
  rw [if_neg (show ¬ ci 2 ≤ cn d from fun z => h2 ((cn_le (a := 2) (by omega) (by omega)).mp z))]
  have s80 : u.1 80 1 = cn 2 := by rw [ru 80 (by decide)]; exact hS.2.2.2
  have s83 : u.1 80 3 = cn 24 := by rw [ru 80 (by decide)]; exact h80
  have s78 : u.1 78 1 = cn 2 := by rw [ru 78 (by decide)]; exact hS.2.1
  have s73 : u.1 78 3 = cn 24 := by rw [ru 78 (by decide)]; exact h3
  rw [show cn q' + ci 1 = cn (q' + 1) from cnu (by omega), show ci 0 = cn 0 from rfl, V_restC (p := p) s80 s83 (by omega) (by omega : d < 2) (by decide : 0 < 2), b1_some, show ci 1 = cn 1 from rfl, V_restC (p := p) s80 s83 (by omega) (by omega : d < 2) (by decide : 1 < 2), b1_some, V_at78 s78 s73 (Nat.le_refl _) (by omega) (by omega), b1_some, V_put80 s80 s83 (Nat.le_refl _) (by omega) (by omega), b1_some]
  have e79 : u.1 79 (q' * 2 + d) = D q' d := by rw [ru 79 (by decide)]; exact h79 q' (by omega) d (by omega)
  have val : u.1 79 (q' * 2 + d) + imax (if q' + 1 < 24 then u.1 81 ((q' + 1) * 2 + 0) - (if d = 0 then cn 0 else p) else cn 0) (if q' + 1 < 24 then u.1 81 ((q' + 1) * 2 + 1) - (if d = 1 then cn 0 else p) else cn 0) = rSt D p (24 - q') d := by
    rw [rSt_q (by omega), e79, show (ci 0 : Int32) = cn 0 from rfl]
    by_cases e : q' = 23
    · rw [if_pos e, if_neg (show ¬ q' + 1 < 24 by omega), if_neg (show ¬ q' + 1 < 24 by omega), show imax (cn 0) (cn 0) = cn 0 by decide]
    · rw [if_neg e, if_pos (show q' + 1 < 24 by omega), if_pos (show q' + 1 < 24 by omega), hu (q' + 1) (by omega) (by omega) 0 (by omega), hu (q' + 1) (by omega) (by omega) 1 (by omega)]
  refine pk_some (show ∃ (d : Nat) (t : mG), _ from ⟨d + 1, (mu u.1 81 (q' * 2 + d) _, u.2), by omega, by rw [show cn d + cn 1 = cn (d + 1) from cnu (by omega)], fun j hj => (mu_row hj).trans (ru j hj), fun c h1 h2 i hi2 => ?_, fun i hi2 => ?_⟩)
  · refine (mu_cellQ (Or.inr ?_)).trans (hu c h1 h2 i hi2)
    omega
  · by_cases e : i = d
    · rw [e]
      exact mu_sameQ.trans val
    · exact (mu_cellQ (Or.inr (by omega))).trans (hi i (by omega))
theorem V_planC {w : Nat → Int32} {n nc : Nat} {p : Int32} {a : mG} (K : HK w n nc a) (h0 : 0 ≤ (w 0).toInt ∧ (w 0).toInt ≤ 9999) (hS : SHy a) : pk (F_X1_plan p a) (PLq (fun c d => dSum w c d n) p) := by
  unfold F_X1_plan F_X10_clear
  dsimp only
  rw [b1_some]
  dsimp only
  rw [b1_some]
  unfold F_X1_plan_L16
  obtain ⟨g1, g2, g3, g4⟩ := hS
  show pk (whl (fun v : Int32 × Int32 × mG => F_X1_plan_B16 v.1 v.2.1 v.2.2) (p, ci 0, (mu (mu a.1 78 3 (ci 0)) 80 3 (ci 0), a.2))) _
  have c78 : ∀ j, j ≠ 3 → mu (mu a.1 78 3 (ci 0)) 80 3 (ci 0) 78 j = a.1 78 j := fun j hj => by rw [mu_cell (Or.inl (by decide)), mu_cell (Or.inr hj)]
  have c783 : mu (mu a.1 78 3 (ci 0)) 80 3 (ci 0) 78 3 = cn 0 := by
    rw [mu_cell (Or.inl (by decide)), mu_same]
    rfl
  have c80 : ∀ j, j ≠ 3 → mu (mu a.1 78 3 (ci 0)) 80 3 (ci 0) 80 j = a.1 80 j := fun j hj => by rw [mu_cell (Or.inr hj), mu_cell (Or.inl (by decide))]
  have c803 : mu (mu a.1 78 3 (ci 0)) 80 3 (ci 0) 80 3 = cn 0 := by
    rw [mu_same]
    rfl
  have cr : ∀ j, j ≠ 78 → j ≠ 80 → mu (mu a.1 78 3 (ci 0)) 80 3 (ci 0) j = a.1 j := fun j h1 h2 => by rw [mu_row h2, mu_row h1]
  generalize mu (mu a.1 78 3 (ci 0)) 80 3 (ci 0) = A at c78 c783 c80 c803 cr ⊢
  refine pk_whl (fun v => ∃ (c : Nat) (t : mG), c ≤ 24 ∧ v = (p, cn c, t) ∧ SHy t ∧ t.1 78 3 = cn c ∧ t.1 80 3 = cn c ∧ (∀ i, i < c → t.1 79 (i * 2 + 0) = dSum w i 0 n ∧ t.1 79 (i * 2 + 1) = dSum w i 1 n) ∧ ∀ j, j ≠ 69 → j ≠ 70 → j ≠ 78 → j ≠ 79 → j ≠ 80 → t.1 j = a.1 j) ⟨0, (A, a.2), by omega, rfl, ⟨(c78 0 (by decide)).trans g1, (c78 1 (by decide)).trans g2, (c80 0 (by decide)).trans g3, (c80 1 (by decide)).trans g4⟩, c783, c803, fun i hi => absurd hi (by omega), fun j h1 h2 h3 h4 h5 => cr j h3 h5⟩ (fun v hv => ?_)
  obtain ⟨c, t, hc, ev, hSt, t78, t80, ht, rt⟩ := hv
  rw [ev]
  unfold F_X1_plan_B16
  dsimp only
  rw [show c8 24 = cn 24 by decide]
  by_cases h24 : 24 ≤ c
  · have ec : c = 24 := by omega
    rw [ec] at t78 t80 ht
    rw [if_pos ((cn_le (by omega) (by omega)).mpr h24)]
    refine pk_b1r (V_planL hSt t78 t80 (fun i hi d hd => ?_))
    rcases (show d = 0 ∨ d = 1 by omega) with e | e <;> rw [e]
    · exact (ht i hi).1
    · exact (ht i hi).2
  rw [if_neg (fun z => h24 ((cn_le (by omega) (by omega)).mp z))]
  obtain ⟨k1, k2, k3, k4⟩ := hSt
  rw [V_add k1 t78 (by decide) (by omega), b2_some]
  rw [V_add (t := 80) (m := 24) (n := c) ((mu_cellQ (i := 78) (j := 80) (Or.inl (by decide))).trans k3) ((mu_cellQ (i := 78) (j := 80) (Or.inl (by decide))).trans t80) (by decide) (by omega), b2_some]
  show pk (b1 (F_X1_countGoings (cn c) ((mu (mu t.1 78 3 (cn (c + 1))) 80 3 (cn (c + 1)), t.2) : mG)) _) _
  have f78 : ∀ j, j ≠ 3 → mu (mu t.1 78 3 (cn (c + 1))) 80 3 (cn (c + 1)) 78 j = t.1 78 j := fun j hj => by rw [mu_cell (Or.inl (by decide)), mu_cell (Or.inr hj)]
  have f783 : mu (mu t.1 78 3 (cn (c + 1))) 80 3 (cn (c + 1)) 78 3 = cn (c + 1) := by rw [mu_cell (Or.inl (by decide)), mu_same]
  have f80 : ∀ j, j ≠ 3 → mu (mu t.1 78 3 (cn (c + 1))) 80 3 (cn (c + 1)) 80 j = t.1 80 j := fun j hj => by rw [mu_cell (Or.inr hj), mu_cell (Or.inl (by decide))]
  have f803 : mu (mu t.1 78 3 (cn (c + 1))) 80 3 (cn (c + 1)) 80 3 = cn (c + 1) := mu_same
  have fr : ∀ j, j ≠ 78 → j ≠ 80 → mu (mu t.1 78 3 (cn (c + 1))) 80 3 (cn (c + 1)) j = t.1 j := fun j h1 h2 => by rw [mu_row h2, mu_row h1]
  generalize mu (mu t.1 78 3 (cn (c + 1))) 80 3 (cn (c + 1)) = Z at f78 f783 f80 f803 fr ⊢
  have Kz : HK w n nc (Z, t.2) := HK_low K (fun j h1 h2 => (fr j (by omega) (by omega)).trans (rt j (by omega) (by omega) (by omega) (by omega) (by omega)))
  refine pk_b1 (V_goings (r := c + 1) Kz h0 ((f78 1 (by decide)).trans k2) f783 (by omega) (by omega)) (fun u qu => ?_)
  obtain ⟨u1, u2, u3, u4⟩ := qu
  refine pk_some (show ∃ (c' : Nat) (t' : mG), _ from ⟨c + 1, u, by omega, by rw [cnu (by omega)], ⟨?_, ?_, ?_, ?_⟩, ?_, ?_, fun i hi => ?_, fun j h1 h2 h3 h4 h5 => (u4 j h1 h2 h4).trans ((fr j h3 h5).trans (rt j h1 h2 h3 h4 h5))⟩)
  · rw [u4 78 (by decide) (by decide) (by decide)]; exact (f78 0 (by decide)).trans k1
  · rw [u4 78 (by decide) (by decide) (by decide)]; exact (f78 1 (by decide)).trans k2
  · rw [u4 80 (by decide) (by decide) (by decide)]; exact (f80 0 (by decide)).trans k3
  · rw [u4 80 (by decide) (by decide) (by decide)]; exact (f80 1 (by decide)).trans k4
  · rw [u4 78 (by decide) (by decide) (by decide)]; exact f783
  · rw [u4 80 (by decide) (by decide) (by decide)]; exact f803
  · by_cases e : i = c
    · rw [e]; exact ⟨u1, u2⟩
    · rw [u3 (i * 2 + 0) (by omega) (by omega), u3 (i * 2 + 1) (by omega) (by omega)]
      show Z 79 (i * 2 + 0) = _ ∧ Z 79 (i * 2 + 1) = _
      rw [fr 79 (by decide) (by decide)]
      exact ht i (by omega)
end
