noncomputable section
/-! WHAT IS ONLY LOOKED UP -/
theorem SIM_f {s : mG} (h : SIM s s) : ∃ n nb nc, n ≤ 12 ∧ nb ≤ 150 ∧ s.1 2 3 = cn n ∧ s.1 4 3 = cn nb ∧ s.1 8 3 = cn nc ∧ HSr 1 s.1 (s.1 89) ∧ LTy nc (s.1 89) ∧ VIm n (s.1 89) ∧ s.1 89 112 = cn n ∧ s.1 89 2 = cn nb := by
  obtain ⟨⟨n, nb, nc, hn, hnb, e2, e4, e8, H, L, V⟩, _⟩ := h
  obtain ⟨_, ⟨_, _, m, hm, g3, gc, _⟩, _⟩ := id H
  exact ⟨n, nb, nc, hn, hnb, e2, e4, e8, H, L, V, SIM_n H e2, gc.trans (g3.symm.trans e4)⟩
theorem wi_igB {a n : Int32} (h : 0 ≤ n.toInt ∧ n.toInt ≤ 150) : wi a (ci 0) (n - ci 1) = ig a n := by
  have e : (n - ci 1).toInt = n.toInt - 1 := r_sub rfl (by decide : (ci 1).toInt = 1) (by omega) (by omega)
  have z : ci 0 = 0 := by decide
  have q : (n - ci 1 < a) = (n ≤ a) := by
    rw [Int32.lt_iff_toInt_lt, Int32.le_iff_toInt_le, e]
    exact propext ⟨fun h => by omega, fun h => by omega⟩
  unfold wi ig
  rw [z]
  by_cases h1 : a < 0
  · rw [if_pos h1, if_pos h1]
  · rw [if_neg h1, if_neg h1]
    by_cases h2 : n ≤ a
    · rw [if_pos h2, if_pos (q ▸ h2)]
    · rw [if_neg h2, if_neg (fun k => h2 (q ▸ k))]
theorem al_11 : 6 * 2 ≤ m_alen (10 + 1) := by decide +kernel
theorem V_atB {w : Nat → Int32} {s : mG} {nb r c : Nat} {k : Int32} (hB : TWr 4 5 150 2 ixB s.1 w) (h3 : s.1 4 3 = cn nb) (hn : nb ≤ 150) (hr : r < nb) (hc : c < 5) (hk : k = cn c) : F_X10_at 4 s (cn r) k = some (w (ixB r c)) := TWr_at hB h3 hn hr hc rfl hk (by decide) (by rw [al_5]; decide)
theorem V_atS {w : Nat → Int32} {s : mG} {n r c : Nat} {k : Int32} (hS : TWr 10 2 6 115 ixS s.1 w) (h3 : s.1 10 3 = cn n) (hn : n ≤ 6) (hr : r < n) (hc : c < 2) (hk : k = cn c) : F_X10_at 10 s (cn r) k = some (w (ixS r c)) := TWr_at hS h3 hn hr hc rfl hk (by decide) al_11
theorem ei_B {r c : Nat} (h : 235 + 5 * r + c < 2147483648) : c16 235 + ci 5 * cn r + cn c = cn (235 + 5 * r + c) := by
  rw [show ci 5 * cn r = cn (5 * r) from cn_mul (a := 5) (by omega) (by omega) (by omega), show c16 235 + cn (5 * r) = cn (235 + 5 * r) from cn_add (a := 235) (by omega), cn_add h]
theorem ei_S {r c : Nat} (h : 143 + 2 * r + c < 2147483648) : c16 143 + ci 2 * cn r + cn c = cn (143 + 2 * r + c) := by
  rw [show ci 2 * cn r = cn (2 * r) from cn_mul (a := 2) (by omega) (by omega) (by omega), show c16 143 + cn (2 * r) = cn (143 + 2 * r) from cn_add (a := 143) (by omega), cn_add h]
theorem ei_G {g c : Nat} (h : 39 + 6 * g + c < 2147483648) : c8 39 + c8 6 * cn g + cn c = cn (39 + 6 * g + c) := by
  rw [show c8 6 * cn g = cn (6 * g) from cn_mul (a := 6) (by omega) (by omega) (by omega), show c8 39 + cn (6 * g) = cn (39 + 6 * g) from cn_add (a := 39) (by omega), cn_add h]
theorem ixG_5 {g c : Nat} : ixG g (5 + c) = 39 + 6 * g + c := by
  unfold ixG
  rw [if_neg (by omega), if_neg (by omega), if_neg (by omega), if_neg (by omega), if_neg (by omega)]
  omega
theorem R_hook {s : mG} {x : Int32} (_ : IM s) (h : SIM s s) : rel (F_X11_hook s x) (F_X12_hook s x) (fun u v => u = v) := by
  obtain ⟨n, nb, nc, hn, hnb, e2, e4, e8, H, L, V, g2, g4⟩ := SIM_f h
  unfold F_X11_hook F_X12_hook
  rw [V_isGuest, V_isGuestR g2 hn, b1_some, b1_some, show s.1 (1 + 1) 3 = cn n from e2]
  exact rel_ifs Iff.rfl (fun _ => rel_some rfl) (fun _ => rel_b1 (R_keyOn H e2 hn) (fun u v e => rel_some e))
end
