noncomputable section
theorem R_looks {a b : mG} {x y z : Int32} (h : SIM a b) : rel (F_X11_looks x y z a) (F_X12_looks x y z b) (fun τ υ => τ.1 = υ.1 ∧ SIM τ.2 υ.2) := by
  obtain ⟨⟨n, nb, nc, hn, hnb, e2, e4, e8, H, L, V⟩, _⟩ := id h
  have h112 := SIM_n H e2
  obtain ⟨_, _, m, hm, g3, gc, _⟩ := H.2.2.2.2.1
  have gc : b.1 89 115 = cn m := gc
  have g3 : a.1 10 3 = cn m := g3
  unfold F_X11_looks F_X12_looks F_X11_looks_31 F_X12_looks_43
  rw [V_isGuest, V_isGuestR h112 hn, b1_some, b1_some, show a.1 (1 + 1) 3 = cn n from e2]
  by_cases hx : ig x (cn n) = 0
  · rw [if_pos hx, if_pos hx]; exact rel_some ⟨rfl, h⟩
  rw [if_neg hx, if_neg hx, V_isSignC, V_isSignR gc (by omega), b1_some, b1_some, g3]
  by_cases hy : ig y (cn m) = 0
  · rw [if_pos hy, if_pos hy]; exact rel_some ⟨rfl, h⟩
  rw [if_neg hy, if_neg hy, V_within, F_isIn, b1_some, b1_some]
  by_cases hz : wi z (ci (-1)) (ci 1) = 0
  · rw [if_pos hz, if_pos hz]; exact rel_some ⟨rfl, h⟩
  rw [if_neg hz, if_neg hz]
  obtain ⟨g, hg, ex⟩ := ig_cn (by omega) hx
  subst ex
  obtain ⟨s, hs, ey⟩ := ig_cn (by omega) hy
  subst ey
  have e5 : ci 5 + cn s = cn (5 + s) := cn_add (a := 5) (by omega)
  have ei : c8 39 + (c8 6) * cn g + cn s = cn (39 + 6 * g + s) := by
    rw [show (c8 6) * cn g = cn (6 * g) from cn_mul (a := 6) (by omega) (by omega) (by omega), show c8 39 + cn (6 * g) = cn (39 + 6 * g) from cn_add (a := 39) (by omega), cn_add (by omega)]
  have eix : ixG g (5 + s) = 39 + 6 * g + s := by
    unfold ixG
    rw [if_neg (by omega), if_neg (by omega), if_neg (by omega), if_neg (by omega), if_neg (by omega)]
    omega
  rw [e5, V_atG (c := 5 + s) H.1 e2 hn hg (by omega) rfl, b1_some, ei, cn_nat (n := 39 + 6 * g + s) (by omega), eix]
  refine rel_rg ?_
  by_cases he : b.1 89 (39 + 6 * g + s) = z
  · rw [if_pos he, if_pos he]; exact rel_some ⟨rfl, h⟩
  rw [if_neg he, if_neg he]
  refine rel_b1 (R_keep h) (fun u t q => ?_)
  obtain ⟨Sk, lo, hi', rj⟩ := q
  obtain ⟨⟨n', nb', nc', hn', hnb', f2, f4, f8, H', L', V'⟩, _⟩ := id Sk
  have en : n' = n := (cn_inj (by omega) (by omega)).mp (f2.symm.trans (by rw [lo 2 (by decide)]; exact e2))
  subst en
  rw [V_putG (c := 5 + s) H'.1.2.1 f2 hn hg (by omega) rfl, b1_some]
  refine rel_rg ?_
  dsimp only
  have cc : ∀ k, k ≠ 39 + 6 * g + s → mu t.1 89 (39 + 6 * g + s) z 89 k = t.1 89 k := fun k hk => mu_cell (Or.inr hk)
  refine rel_some ⟨rfl, SIM_go Sk (HSr_put H' f2 hg hn (by omega) eix.symm) (fun j h1 h2 _ _ _ _ _ => mu_row h2) (RFh_2 (fun j h1 _ _ => mu_row h1) (fun k hk => cc k (by omega)) (cc 2 (by omega))) (fun m' hm' em => ?_)⟩
  have en : m' = n' := (cn_inj (by omega) (by omega)).mp (em.symm.trans f2)
  subst en
  have c0 : mu t.1 89 (39 + 6 * g + s) z 89 0 = t.1 89 0 := cc 0 (by omega)
  refine (show 0 ≤ (mu t.1 89 (39 + 6 * g + s) z 89 0).toInt ∧ (mu t.1 89 (39 + 6 * g + s) z 89 0).toInt ≤ 9999 ∧ ∀ i, i < m' → VIg (mu t.1 89 (39 + 6 * g + s) z 89) i from ⟨?_, ?_, fun i hi => VIg_put (g := g) (V'.2.2 i hi) (by omega)⟩)
  · rw [c0]; exact V'.1
  · rw [c0]; exact V'.2.1
end
