noncomputable section
theorem R_sign {s : mG} {x y : Int32} (_ : IM s) (h : SIM s s) : rel (F_X11_sign s x y) (F_X12_sign s x y) (fun u v => u = v) := by
  obtain ⟨n, nb, nc, hn, hnb, e2, e4, e8, H, L, V, g2, g4⟩ := SIM_f h
  have HS := H.2.2.2.2.1
  obtain ⟨_, _, m, hm, g3, gc, _⟩ := id HS
  have gc : s.1 89 115 = cn m := gc
  have g3 : s.1 10 3 = cn m := g3
  unfold F_X11_sign F_X12_sign F_X11_sign_73
  rw [V_isSignC, V_isSignR gc (by omega), b1_some, b1_some, g3]
  refine rel_ifs Iff.rfl (fun _ => rel_some rfl) (fun hx => ?_)
  obtain ⟨k, hk, ex⟩ := ig_cn (by omega) hx
  subst ex
  rw [V_within, F_isIn, b1_some, b1_some]
  refine rel_ifs Iff.rfl (fun _ => ?_) (fun hy => ?_)
  · rw [V_isGuest, V_isGuestR g2 hn, b1_some, b1_some, show s.1 (1 + 1) 3 = cn n from e2]
    by_cases hg : ig (y - ci 2) (cn n) = 0
    · rw [if_pos hg, if_pos hg]
      exact rel_li (fun _ => rel_some rfl) (fun _ => rel_some rfl)
    · obtain ⟨g, hg', ey⟩ := ig_cn (by omega) hg
      have ey2 : y = cn g + ci 2 := by rw [← ey, Int32.sub_add_cancel]
      have y2 : ¬ y < ci 2 := by
        rw [ey2, show ci 2 = cn 2 from rfl, cn_add (by omega), cn_lt (by omega) (by omega)]; omega
      rw [if_neg hg, if_neg hg, if_neg y2, ey, show ci 5 + cn k = cn (5 + k) from cn_add (a := 5) (by omega), V_atG (c := 5 + k) H.1 e2 hn hg' (by omega) rfl, b1_some, ei_G (by omega), cn_nat (n := 39 + 6 * g + k) (by omega), ixG_5]
      exact rel_rg (rel_some rfl)
  · obtain ⟨c, hc, ey⟩ := wi_cn (l := 1) (by omega) hy
    subst ey
    rw [V_atS (c := c) HS g3 hm hk (by omega) rfl, b1_some, ei_S (by omega), cn_nat (n := 143 + 2 * k + c) (by omega)]
    exact rel_rg (rel_some rfl)
theorem R_book {s : mG} {x y : Int32} (_ : IM s) (h : SIM s s) : rel (F_X11_book s x y) (F_X12_book s x y) (fun u v => u = v) := by
  obtain ⟨n, nb, nc, hn, hnb, e2, e4, e8, H, L, V, g2, g4⟩ := SIM_f h
  unfold F_X11_book F_X12_book F_X11_book_23 F_X12_book_42
  rw [V_hasRow, F_isIn, b1_some, b1_some, e4, g4, wi_igB (by rw [t_cn (by omega)]; omega)]
  refine rel_ifs Iff.rfl (fun _ => rel_some rfl) (fun hx => ?_)
  obtain ⟨r, hr, ex⟩ := ig_cn (by omega) hx
  subst ex
  rw [V_within, F_isIn, b1_some, b1_some]
  refine rel_ifs Iff.rfl (fun _ => rel_some rfl) (fun hy => ?_)
  obtain ⟨c, hc, ey⟩ := wi_cn (l := 4) (by omega) hy
  subst ey
  rw [V_atB (c := c) H.2.1 e4 hnb hr (by omega) rfl, b1_some, ei_B (by omega), cn_nat (n := 235 + 5 * r + c) (by omega)]
  exact rel_rg (rel_some rfl)
end
