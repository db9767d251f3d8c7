noncomputable section
theorem R_by {s : mG} {x y : Int32} (_ : IM s) (h : SIM s s) : rel (F_X11_by s x y) (F_X12_by s x y) (fun u v => u = v) := by
  obtain ⟨n, nb, nc, hn, hnb, e2, e4, e8, H, L, V, g2, g4⟩ := SIM_f h
  unfold F_X11_by F_X12_by F_X11_by_18 F_X12_by_18
  rw [V_within, F_isIn, b1_some, b1_some]
  refine rel_ifs Iff.rfl (fun _ => rel_some rfl) (fun _ => ?_)
  rw [V_within, F_isIn, b1_some, b1_some]
  refine rel_ifs Iff.rfl (fun _ => rel_some rfl) (fun hy => ?_)
  obtain ⟨c, hc, ey⟩ := wi_cn (l := 1) (by omega) hy
  subst ey
  rw [b1_id]
  unfold F_X8_linesAt F_X8_linesAt_L5 F_X12_by_L25
  refine rel_mono (rel_cong (fun v => v.1 = x ∧ v.2.1 = cn c ∧ ∃ r, r ≤ nb ∧ v.2.2.2 = cn r) (Q := fun _ => True) ⟨rfl, rfl, 0, Nat.zero_le _, rfl⟩ (fun v hv => ?_)) (fun u v q => q.1)
  obtain ⟨x1, x2, x3, x4⟩ := v
  obtain ⟨q1o, q2o, r, hr, q4o⟩ := hv
  have q1 : x = x1 := (show x1 = x from q1o).symm
  have q2 : x2 = cn c := q2o
  have q4 : x4 = cn r := q4o
  subst q1; subst q2; subst q4
  unfold F_X8_linesAt_B5 F_X12_by_B25
  dsimp only
  rw [e4, g4]
  by_cases hrn : nb ≤ r
  · rw [if_pos ((cn_le (by omega) (by omega)).mpr hrn), if_pos ((cn_le (by omega) (by omega)).mpr hrn)]
    exact rel_some ⟨rfl, trivial⟩
  have e61 : (if cn c = 0 then F_X12_by_61 s x (cn c) (cn r) x3 (s.1 89 (235 + 5 * r + 1)) (ci 0) else F_X12_by_61 s x (cn c) (cn r) x3 (s.1 89 (235 + 5 * r + 1)) (ci 1)) = F_X12_by_61 s x (cn c) (cn r) x3 (s.1 89 (235 + 5 * r + 1)) (cn c) := by
    rcases (show c = 0 ∨ c = 1 by omega) with e | e <;> subst e
    · exact if_pos (by decide)
    · exact if_neg (by decide)
  rw [if_neg (fun q => hrn ((cn_le (by omega) (by omega)).mp q)), if_neg (fun q => hrn ((cn_le (by omega) (by omega)).mp q)), V_atB (c := 3) (k := ci 3) H.2.1 e4 hnb (by omega) (by decide) rfl, b1_some, V_atB (c := 1) (k := ci 1) H.2.1 e4 hnb (by omega) (by decide) rfl, b1_some, show c16 235 + ci 5 * cn r + ci 1 = cn (235 + 5 * r + 1) from ei_B (c := 1) (by omega), cn_nat (n := 235 + 5 * r + 1) (by omega), e61]
  refine rel_rg ?_
  unfold F_X12_by_61
  rw [show c16 235 + ci 5 * cn r + ci 3 = cn (235 + 5 * r + 3) from ei_B (c := 3) (by omega), cn_nat (n := 235 + 5 * r + 3) (by omega), show ixB r 3 = 235 + 5 * r + 3 from rfl, show ixB r 1 = 235 + 5 * r + 1 from rfl]
  unfold F_X8_linesAt_58 F_X8_linesAt_59 F_X8_linesAt_72 F_X12_by_87 F_X12_by_88
  rw [if_neg c1n0, if_pos c0e0]
  have fin : ∀ d : Int32, rel (some (Sum.inl (x, cn c, x3 + d, cn r + ci 1)) : Option ((Int32 × Int32 × Int32 × Int32) ⊕ Int32)) (some (Sum.inl (x, cn c, x3 + d, cn r + ci 1))) (fun u v => u = v ∧ se (fun v : Int32 × Int32 × Int32 × Int32 => v.1 = x ∧ v.2.1 = cn c ∧ ∃ r, r ≤ nb ∧ v.2.2.2 = cn r) (fun _ : Int32 => True) u) := fun d => rel_some ⟨rfl, rfl, rfl, r + 1, by omega, cnu (by omega)⟩
  by_cases k3 : s.1 89 (235 + 5 * r + 3) = x
  · by_cases k1 : s.1 89 (235 + 5 * r + 1) = cn c
    · rw [if_pos k3, if_pos k1, if_pos k1, if_pos k3]
      exact rel_rg (fin _)
    · rw [if_pos k3, if_neg k1, if_neg k1]
      exact fin _
  · by_cases k1 : s.1 89 (235 + 5 * r + 1) = cn c
    · rw [if_neg k3, if_pos k1, if_neg k3]
      exact rel_rg (fin _)
    · rw [if_neg k3, if_neg k1]
      exact fin _
end
