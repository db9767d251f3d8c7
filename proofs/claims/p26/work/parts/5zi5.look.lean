noncomputable section
theorem R_thief {s : mG} (_ : IM s) (h : SIM s s) : rel (F_X11_thief s) (F_X12_thief s) (fun u v => u = v) := by
  obtain ⟨n, nb, nc, hn, hnb, e2, e4, e8, H, L, V, g2, g4⟩ := SIM_f h
  unfold F_X11_thief F_X12_thief
  rw [b1_id]
  unfold F_X8_longestOutWithKey F_X8_longestOutWithKey_L6 F_X12_thief_L4
  refine rel_whl (fun v w => v.1 = w.1 ∧ (∃ g, g ≤ n ∧ v.2.2 = cn g ∧ w.2 = cn g) ∧ ((v.1 = ci (-1) ∧ v.2.1 = ci (-1)) ∨ ∃ t, t < n ∧ v.1 = cn t ∧ v.2.1 = s.1 89 (27 + t))) ⟨rfl, ⟨0, Nat.zero_le _, rfl, rfl⟩, Or.inl ⟨rfl, rfl⟩⟩ (fun v w hvw => ?_)
  obtain ⟨x1, x2, x3⟩ := v
  obtain ⟨y1, y2⟩ := w
  obtain ⟨q1o, ⟨g, hg, q2o, q3o⟩, q4o⟩ := hvw
  have q1 : x1 = y1 := q1o
  have q2 : x3 = cn g := q2o
  have q3 : y2 = cn g := q3o
  have q4 : (x1 = ci (-1) ∧ x2 = ci (-1)) ∨ ∃ t, t < n ∧ x1 = cn t ∧ x2 = s.1 89 (27 + t) := q4o
  subst q1; subst q2; subst q3
  unfold F_X8_longestOutWithKey_B6 F_X12_thief_B4
  dsimp only
  rw [e2, g2]
  by_cases hgn : n ≤ g
  · rw [if_pos ((cn_le (by omega) (by omega)).mpr hgn), if_pos ((cn_le (by omega) (by omega)).mpr hgn)]
    exact rel_some rfl
  have a2 : F_X10_at 2 s (cn g) (ci 2) = some (s.1 89 (3 + g)) := V_atG (c := 2) (k := ci 2) H.1 e2 hn (by omega) (by decide) rfl
  have a3 : F_X10_at 2 s (cn g) (ci 3) = some (s.1 89 (15 + g)) := V_atG (c := 3) (k := ci 3) H.1 e2 hn (by omega) (by decide) rfl
  have a4 : F_X10_at 2 s (cn g) (ci 4) = some (s.1 89 (27 + g)) := V_atG (c := 4) (k := ci 4) H.1 e2 hn (by omega) (by decide) rfl
  rw [if_neg (fun q => hgn ((cn_le (by omega) (by omega)).mp q)), if_neg (fun q => hgn ((cn_le (by omega) (by omega)).mp q)), show c8 15 + cn g = cn (15 + g) from cn_add (a := 15) (by omega), show ci 3 + cn g = cn (3 + g) from cn_add (a := 3) (by omega), show c8 27 + cn g = cn (27 + g) from cn_add (a := 27) (by omega), cn_nat (n := 15 + g) (by omega), cn_nat (n := 3 + g) (by omega), cn_nat (n := 27 + g) (by omega)]
  refine rel_rg ?_
  have stay : rel (F_X8_longestOutWithKey_90 s x1 x2 (cn g)) (F_X12_thief_68 s x1 (cn g)) (se2 (fun v w => v.1 = w.1 ∧ (∃ g, g ≤ n ∧ v.2.2 = cn g ∧ w.2 = cn g) ∧ ((v.1 = ci (-1) ∧ v.2.1 = ci (-1)) ∨ ∃ t, t < n ∧ v.1 = cn t ∧ v.2.1 = s.1 89 (27 + t))) (fun u v => u = v)) := by
    unfold F_X8_longestOutWithKey_90 F_X12_thief_68
    exact rel_some ⟨rfl, ⟨g + 1, by omega, cnu (by omega), cnu (by omega)⟩, q4⟩
  have take : rel (F_X8_longestOutWithKey_90 s (cn g) (s.1 89 (27 + g)) (cn g)) (F_X12_thief_66 s (cn g)) (se2 (fun v w => v.1 = w.1 ∧ (∃ g, g ≤ n ∧ v.2.2 = cn g ∧ w.2 = cn g) ∧ ((v.1 = ci (-1) ∧ v.2.1 = ci (-1)) ∨ ∃ t, t < n ∧ v.1 = cn t ∧ v.2.1 = s.1 89 (27 + t))) (fun u v => u = v)) := by
    unfold F_X8_longestOutWithKey_90 F_X12_thief_66 F_X12_thief_68
    exact rel_some ⟨rfl, ⟨g + 1, by omega, cnu (by omega), cnu (by omega)⟩, Or.inr ⟨g, by omega, rfl, rfl⟩⟩
  have no : rel (F_X8_longestOutWithKey_51 s x1 x2 (cn g)) (F_X12_thief_68 s x1 (cn g)) (se2 (fun v w => v.1 = w.1 ∧ (∃ g, g ≤ n ∧ v.2.2 = cn g ∧ w.2 = cn g) ∧ ((v.1 = ci (-1) ∧ v.2.1 = ci (-1)) ∨ ∃ t, t < n ∧ v.1 = cn t ∧ v.2.1 = s.1 89 (27 + t))) (fun u v => u = v)) := by
    unfold F_X8_longestOutWithKey_51 F_X8_longestOutWithKey_52
    rw [if_pos c0e0]
    exact stay
  unfold F_X2_isOut
  rw [show (1 + 1 : Nat) = 2 from rfl, a2, b1_some, a3]
  by_cases k3 : s.1 89 (3 + g) = ci 1
  · rw [if_pos k3, b1_some, if_neg c1n0, b1_some]
    by_cases k15 : s.1 89 (15 + g) = ci (-1)
    · rw [if_pos k15, if_pos k15]
      refine rel_rg ?_
      rw [if_pos k3]
      unfold F_X8_longestOutWithKey_52
      rw [if_neg c1n0, a4, b1_some, b1_some]
      have V27 := (V.2.2 g (by omega)).2.2.1
      rcases q4 with ⟨p1, p2⟩ | ⟨t, ht, p1, p2⟩
      · rw [if_neg (show ¬ s.1 89 (27 + g) ≤ x2 by rw [p2, Int32.le_iff_toInt_le, show (ci (-1)).toInt = -1 by decide]; omega), if_pos p1]
        exact take
      · rw [if_neg (show ¬ x1 = ci (-1) by rw [p1]; exact fun q => absurd (congrArg Int32.toInt q) (by rw [t_cn (by omega), show (ci (-1)).toInt = -1 by decide]; omega)), show c8 27 + x1 = cn (27 + t) by rw [p1]; exact cn_add (a := 27) (by omega), cn_nat (n := 27 + t) (by omega), p2]
        refine rel_rg (rel_rg (rel_ifs Iff.rfl (fun _ => ?_) (fun _ => take)))
        rw [p2] at stay
        exact stay
    · rw [if_neg k15, if_neg k15]
      exact no
  · rw [if_neg k3, b1_some, if_pos c0e0]
    by_cases k15 : s.1 89 (15 + g) = ci (-1)
    · rw [if_pos k15]
      refine rel_rg ?_
      rw [if_neg k3]
      exact no
    · rw [if_neg k15]
      exact no
end
