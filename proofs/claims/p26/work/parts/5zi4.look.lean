noncomputable section
theorem R_saw {s : mG} {x y : Int32} (_ : IM s) (h : SIM s s) : rel (F_X11_saw s x y) (F_X12_saw s x y) (fun u v => u = v) := by
  obtain ⟨n, nb, nc, hn, hnb, e2, e4, e8, H, L, V, g2, g4⟩ := SIM_f h
  unfold F_X11_saw F_X12_saw F_X11_saw_20 F_X12_saw_17
  rw [V_isGuest, V_isGuestR g2 hn, b1_some, b1_some, show s.1 (1 + 1) 3 = cn n from e2]
  refine rel_ifs Iff.rfl (fun _ => rel_some rfl) (fun _ => ?_)
  rw [V_within, F_isIn, b1_some, b1_some]
  refine rel_ifs Iff.rfl (fun _ => rel_some rfl) (fun hy => ?_)
  obtain ⟨c, hc, ey⟩ := wi_cn (l := 1) (by omega) hy
  subst ey
  have main : ∀ z : Int32, (ci 0 = z ↔ ci 1 = cn c) → (ci 1 = z ↔ ci 0 = cn c) → rel (F_X11_saw_36 s x z) (F_X12_saw_L24 s x (cn c) (ci 0) (ci 0)) (fun u v => u = v) := fun z z0 z1 => by
    unfold F_X11_saw_36 F_X8_linesOf F_X8_linesOf_L5 F_X12_saw_L24
    rw [b1_id]
    refine rel_whl (fun v w => v.1 = x ∧ v.2.1 = z ∧ w.1 = x ∧ w.2.1 = cn c ∧ v.2.2.1 = w.2.2.1 ∧ ∃ r, r ≤ nb ∧ v.2.2.2 = cn r ∧ w.2.2.2 = cn r) ⟨rfl, rfl, rfl, rfl, rfl, 0, Nat.zero_le _, rfl, rfl⟩ (fun v w hvw => ?_)
    obtain ⟨x1, x2, x3, x4⟩ := v
    obtain ⟨y1, y2, y3, y4⟩ := w
    obtain ⟨q1o, q2o, q3o, q4o, q5o, r, hr, q6o, q7o⟩ := hvw
    have q1 : x = x1 := (show x1 = x from q1o).symm
    have q2 : z = x2 := (show x2 = z from q2o).symm
    have q3 : x = y1 := (show y1 = x from q3o).symm
    have q4 : y2 = cn c := q4o
    have q5 : x3 = y3 := q5o
    have q6 : x4 = cn r := q6o
    have q7 : y4 = cn r := q7o
    subst q1; subst q2; subst q3; subst q4; subst q5; subst q6; subst q7
    unfold F_X8_linesOf_B5 F_X12_saw_B24
    dsimp only
    rw [e4, g4]
    by_cases hrn : nb ≤ r
    · rw [if_pos ((cn_le (by omega) (by omega)).mpr hrn), if_pos ((cn_le (by omega) (by omega)).mpr hrn)]
      exact rel_some rfl
    have at4 : F_X10_at 4 s (cn r) (ci 4) = some (s.1 89 (235 + 5 * r + 4)) := V_atB (c := 4) (k := ci 4) H.2.1 e4 hnb (by omega) (by decide) rfl
    have at2 : F_X10_at 4 s (cn r) (ci 2) = some (s.1 89 (235 + 5 * r + 2)) := V_atB (c := 2) (k := ci 2) H.2.1 e4 hnb (by omega) (by decide) rfl
    have at1 : F_X10_at 4 s (cn r) (ci 1) = some (s.1 89 (235 + 5 * r + 1)) := V_atB (c := 1) (k := ci 1) H.2.1 e4 hnb (by omega) (by decide) rfl
    have f58 : F_X8_linesOf_58 s x z x3 (cn r) = some (Sum.inl (x, z, x3 + ci 0, cn r + ci 1)) := by
      unfold F_X8_linesOf_58 F_X8_linesOf_59
      rw [at4, b1_some]
      unfold F_X8_linesOf_83 F_X8_linesOf_101 F_X8_linesOf_102
      rw [if_pos c0e0, if_pos c0e0]
      by_cases k : s.1 89 (235 + 5 * r + 4) = ci (-1)
      · rw [if_pos k]
      · rw [if_neg k]
    have f59 : F_X8_linesOf_59 s x z x3 (cn r) (ci 1) = some (Sum.inl (x, z, x3 + (if s.1 89 (235 + 5 * r + 4) = ci (-1) then (if ci 0 = z then ci 1 else ci 0) else if ci 1 = z then ci 1 else ci 0), cn r + ci 1)) := by
      unfold F_X8_linesOf_59
      rw [at4, b1_some]
      unfold F_X8_linesOf_83 F_X8_linesOf_101 F_X8_linesOf_102
      rw [if_neg c1n0, if_neg c1n0]
      by_cases k : s.1 89 (235 + 5 * r + 4) = ci (-1)
      · rw [if_pos k, if_pos k]
        by_cases kz : ci 0 = z
        · rw [if_pos kz, if_pos kz]
        · rw [if_neg kz, if_neg kz]
      · rw [if_neg k, if_neg k]
        by_cases kz : ci 1 = z
        · rw [if_pos kz, if_pos kz]
        · rw [if_neg kz, if_neg kz]
    rw [if_neg (fun q => hrn ((cn_le (by omega) (by omega)).mp q)), if_neg (fun q => hrn ((cn_le (by omega) (by omega)).mp q)), at2, b1_some, at1, b1_some, f58, f59, show c16 235 + ci 5 * cn r + ci 1 = cn (235 + 5 * r + 1) from ei_B (c := 1) (by omega), show c16 235 + ci 5 * cn r + ci 2 = cn (235 + 5 * r + 2) from ei_B (c := 2) (by omega), show c16 235 + ci 5 * cn r + ci 4 = cn (235 + 5 * r + 4) from ei_B (c := 4) (by omega), cn_nat (n := 235 + 5 * r + 1) (by omega), cn_nat (n := 235 + 5 * r + 2) (by omega), cn_nat (n := 235 + 5 * r + 4) (by omega)]
    unfold F_X12_saw_90 F_X12_saw_98 F_X12_saw_99
    refine rel_rg ?_
    have fin : ∀ d e : Int32, d = e → rel (some (Sum.inl (x, z, x3 + d, cn r + ci 1)) : Option ((Int32 × Int32 × Int32 × Int32) ⊕ Int32)) (some (Sum.inl (x, cn c, x3 + e, cn r + ci 1)) : Option ((Int32 × Int32 × Int32 × Int32) ⊕ Int32)) (se2 (fun v w => v.1 = x ∧ v.2.1 = z ∧ w.1 = x ∧ w.2.1 = cn c ∧ v.2.2.1 = w.2.2.1 ∧ ∃ r, r ≤ nb ∧ v.2.2.2 = cn r ∧ w.2.2.2 = cn r) (fun u v => u = v)) := fun d e he => rel_some ⟨rfl, rfl, rfl, rfl, by rw [he], r + 1, by omega, cnu (by omega), cnu (by omega)⟩
    by_cases k1 : s.1 89 (235 + 5 * r + 1) = ci 2
    · rw [if_pos k1, if_pos k1]
      exact rel_li (fun _ => fin _ _ rfl) (fun _ => fin _ _ rfl)
    rw [if_neg k1, if_neg k1]
    refine rel_rg ?_
    by_cases k2 : s.1 89 (235 + 5 * r + 2) = x
    · rw [if_pos k2, if_pos k2]
      refine rel_rg ?_
      by_cases k4 : s.1 89 (235 + 5 * r + 4) = ci (-1)
      · rw [if_pos k4, if_pos k4]
        exact rel_ri (fun k => fin _ _ (if_pos (z0.mpr k))) (fun k => fin _ _ (if_neg (fun q => k (z0.mp q))))
      · rw [if_neg k4, if_neg k4]
        exact rel_ri (fun k => fin _ _ (if_pos (z1.mpr k))) (fun k => fin _ _ (if_neg (fun q => k (z1.mp q))))
    · rw [if_neg k2, if_neg k2]
      exact fin _ _ rfl
  rcases (show c = 0 ∨ c = 1 by omega) with e | e <;> subst e
  · rw [if_pos (show cn 0 = 0 by decide)]
    exact main (ci 1) (by decide) (by decide)
  · rw [if_neg (show ¬ cn 1 = 0 by decide)]
    exact main (ci 0) (by decide) (by decide)
end
