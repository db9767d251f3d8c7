noncomputable section
theorem R_hang {a b : mG} {x y : Int32} (h : SIM a b) : rel (F_X11_hang x y a) (F_X12_hang x y b) (fun τ υ => τ.1 = υ.1 ∧ SIM τ.2 υ.2) := by
  obtain ⟨⟨n, nb, nc, hn, hnb, e2, e4, e8, H, L, V⟩, _⟩ := id h
  have h112 := SIM_n H e2
  unfold F_X11_hang F_X12_hang F_X11_hang_44 F_X12_hang_36
  rw [V_isGuest, V_isGuestR h112 hn, b1_some, b1_some, show a.1 (1 + 1) 3 = cn n from e2]
  by_cases hx : ig x (cn n) = 0
  · rw [if_pos hx, if_pos hx]; exact rel_some ⟨rfl, h⟩
  rw [if_neg hx, if_neg hx, V_isGuest, V_isGuestR h112 hn, b1_some, b1_some, show a.1 (1 + 1) 3 = cn n from e2]
  by_cases hy : ig y (cn n) = 0
  · rw [if_pos hy, if_pos hy]; exact rel_some ⟨rfl, h⟩
  rw [if_neg hy, if_neg hy]
  obtain ⟨g, hg, ex⟩ := ig_cn (by omega) hx
  subst ex
  unfold F_X2_isOut
  rw [show (1 + 1 : Nat) = 2 from rfl, V_atG (c := 2) (k := ci 2) H.1 e2 hn hg (by decide) rfl, b1_some, show ixG g 2 = 3 + g from rfl, show ci 3 + cn g = cn (3 + g) from cn_add (a := 3) (by omega), cn_nat (n := 3 + g) (by omega)]
  refine rel_rg ?_
  rcases (V.2.2 g hg).1 with ho | ho
  · rw [ho, if_neg (by decide), b1_some, if_pos c0e0, if_pos c0e0]; exact rel_some ⟨rfl, h⟩
  rw [ho, if_pos rfl, b1_some, if_neg c1n0, if_neg c1n0, V_hasKey, b1_b1]
  refine rel_b1 (R_keyOn H e2 hn) (fun u v e => ?_)
  subst e
  by_cases hk : u = ci (-1)
  · rw [if_pos hk, if_pos hk, b1_some, if_pos c0e0]
    refine rel_b1 (R_keep h) (fun s t q => ?_)
    obtain ⟨Sk, lo, hi', rj⟩ := q
    have r89 : t.1 89 = b.1 89 := rj 89 (by decide) (by decide)
    obtain ⟨⟨n', nb', nc', hn', hnb', f2, f4, f8, H', L', V'⟩, _⟩ := id Sk
    have en : n' = n := (cn_inj (by omega) (by omega)).mp (f2.symm.trans (by rw [lo 2 (by decide)]; exact e2))
    subst en
    rw [V_putG (c := 3) (k := ci 3) H'.1.2.1 f2 hn hg (by decide) rfl, b1_some, show c8 15 + cn g = cn (15 + g) from cn_add (a := 15) (by omega), cn_nat (n := 15 + g) (by omega)]
    refine rel_rg ?_
    dsimp only
    refine rel_b1 (R_write (a := (mu s.1 3 (g * 11 + 3) y, s.2)) (b := (mu t.1 89 (15 + g) y, t.2)) (HSr_put H' f2 hg hn (by decide) rfl)) (fun s' t' q => ?_)
    obtain ⟨q1, q2, q3, q4, q5⟩ := q
    have c89 : ∀ k, k ≠ 2 → (k < 235 ∨ 985 ≤ k) → k ≠ 15 + g → t'.1 89 k = t.1 89 k := fun k h1 h2 h3 => (q4 k h1 h2).trans (mu_cellQ (Or.inr h3))
    refine rel_some ⟨rfl, SIM_go Sk q1 (fun j h1 h2 h3 h4 _ _ _ => (q2 j h3 h4).trans (mu_row h2)) ⟨fun j h1 _ _ => (q3 j h1).trans (mu_row h1), fun k hk => c89 k (by omega) (by omega) (by omega), ?_⟩ (fun m hm em => ?_)⟩
    · have q5 : (mu t.1 89 (15 + g) y 89 2).toInt ≤ (t'.1 89 2).toInt := q5
      rw [mu_cell (Or.inr (by omega))] at q5
      exact q5
    · have en : m = n' := (cn_inj (by omega) (by omega)).mp (em.symm.trans f2)
      subst en
      refine ⟨by rw [c89 0 (by omega) (by omega) (by omega)]; exact V'.1, by rw [c89 0 (by omega) (by omega) (by omega)]; exact V'.2.1, fun i hi => ?_⟩
      have Vi := V'.2.2 i hi
      unfold VIg at Vi ⊢
      rw [c89 (3 + i) (by omega) (by omega) (by omega), c89 (27 + i) (by omega) (by omega) (by omega)]
      by_cases eig : i = g
      · subst eig
        rw [r89, ho]
        refine ⟨Or.inr rfl, fun e => absurd e (by decide), ?_, ?_⟩
        · rw [r89] at Vi; exact Vi.2.2.1
        · rw [r89] at Vi; exact Vi.2.2.2
      · rw [c89 (15 + i) (by omega) (by omega) (by omega)]
        exact Vi
  · rw [if_neg hk, if_neg hk, b1_some, if_neg c1n0]; exact rel_some ⟨rfl, h⟩
end
