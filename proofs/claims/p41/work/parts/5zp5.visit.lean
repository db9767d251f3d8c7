noncomputable section
theorem R_visit {a b : mG} {x y : Int32} (hI : IM b) (h : SIM a b) : rel (F_X11_visit x y a) (F_X12_visit x y b) (fun τ υ => τ.1 = υ.1) := by
  obtain ⟨n, nc, m, K, g2, V, hm, h3, hw⟩ := SIM_S h
  have hn := K.2.2.1
  unfold F_X11_visit F_X12_visit F_X11_visit_20 F_X12_visit_17
  rw [V_isGuest, V_isGuestR g2 hn, b1_some, b1_some, show a.1 (1 + 1) 3 = cn n from K.2.1]
  refine rel_ifs Iff.rfl (fun _ => rel_some rfl) (fun hx => ?_)
  obtain ⟨g, hg, ex⟩ := ig_cn (by omega) hx
  subst ex
  rw [V_within, F_isIn, b1_some, b1_some]
  refine rel_ifs Iff.rfl (fun _ => rel_some rfl) (fun hy => ?_)
  refine rel_b2 (rel_pk (R := fun τ υ => Su τ.1 υ.1 ∧ (∀ j, j ≠ 69 → j ≠ 70 → j ≠ 74 → τ.2.1 j = a.1 j) ∧ ∀ j, j ≠ 96 → j ≠ 97 → υ.2.1 j = b.1 j) (V_sureC hI K hg h3 hm) (V_sureR K.2.2.2.2 hn hg hw hm) (fun u v p q => ⟨by rw [q.1]; exact p.1, p.2.2, q.2⟩)) (fun u s v t e => ?_)
  obtain ⟨e1o, e2o, e3o⟩ := e
  have e1 : Su u v := e1o
  have e2 : ∀ j, j ≠ 69 → j ≠ 70 → j ≠ 74 → s.1 j = a.1 j := e2o
  have e3 : ∀ j, j ≠ 96 → j ≠ 97 → t.1 j = b.1 j := e3o
  have Ks : HK (b.1 89) n nc s := by
    obtain ⟨h1, h2, h3', h4, h5⟩ := K
    refine ⟨?_, by rw [e2 2 (by decide) (by decide) (by decide)]; exact h2, h3', by rw [e2 8 (by decide) (by decide) (by decide)]; exact h4, h5⟩
    exact HSr1_row h1 (fun j _ h2 => e2 j (by omega) (by omega) (by omega)) (fun _ _ => rfl)
  unfold F_X11_visit_45
  obtain ⟨c, hc, ey⟩ := wi_cn (l := 1) (by omega) hy
  subst ey
  rcases (show c = 0 ∨ c = 1 by omega) with e | e <;> subst e
  · rw [if_neg (show ¬ cn 0 = ci 1 by decide), b2_id, show cn 0 = ci 0 from rfl]
    exact R_best Ks hg e1 e3
  · rw [if_pos (show cn 1 = ci 1 from rfl), b2_id, show cn 1 = ci 1 from rfl]
    exact R_best Ks hg e1 e3
end
