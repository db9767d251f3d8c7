noncomputable section
/-- guests, the book and the hour change, and what is thought -/
theorem SIM_go {a b u t : mG} (h : SIM a b) (H : HSr 1 u.1 (t.1 89)) (c : CFh a u) (r : RFh b t) (v : ∀ n, n ≤ 12 → a.1 2 3 = cn n → VIm n (t.1 89)) : SIM u t := by
  obtain ⟨⟨n, nb, nc, hn, hnb, e2, e4, e8, H0, L, V⟩, P, I⟩ := h
  have r2 : u.1 2 = a.1 2 := c 2 (by decide) (by decide) (by decide) (by decide) (by decide) (by decide) (by decide)
  have r8 : u.1 8 = a.1 8 := c 8 (by decide) (by decide) (by decide) (by decide) (by decide) (by decide) (by decide)
  have big : ∀ j, 18 ≤ j → j ≤ 54 → u.1 j = a.1 j := fun j h1 h2 => c j (by omega) (by omega) (by omega) (by omega) (by omega) (by omega) (by omega)
  obtain ⟨_, ⟨_, _, nb', hnb', b3', bc', _⟩, _⟩ := id H
  obtain ⟨_, ⟨_, _, nb0, hnb0, b3, bc, _⟩, _⟩ := id H0
  have enb : nb0 = nb := (cn_inj (by omega) (by omega)).mp (b3.symm.trans e4)
  subst enb
  have grow : nb0 ≤ nb' := by
    have q := r.2.2
    rw [bc, bc', t_cn (by omega), t_cn (by omega)] at q
    omega
  refine ⟨⟨n, nb', nc, hn, hnb', by rw [r2]; exact e2, b3', by rw [r8]; exact e8, H, LTy_same L (fun k hk => r.2.1 k (by omega)), v n hn e2⟩, ?_, IMG_same I (by rw [c 0 (by decide) (by decide) (by decide) (by decide) (by decide) (by decide) (by decide)]) (fun j h1 h2 => big j h1 (by omega)) (congrFun (r.1 88 (by decide) (by decide) (by decide)) 4) (r.1 90 (by decide) (by decide) (by decide))⟩
  refine PSr_go P (big 35 (by decide) (by decide)) (congrFun (r.1 88 (by decide) (by decide) (by decide)) 3) (r.1 91 (by decide) (by decide) (by decide)) r2 e2 hn e4 grow hnb' b3' (fun j h1 h2 => big j (by omega) h2) (fun r' c' hr hc' => ?_)
  have q1 := H.1
  have q0 := H0.1
  obtain ⟨_, _, m, hm, g3, _, gx⟩ := q1
  obtain ⟨_, _, m0, hm0, g03, _, gx0⟩ := q0
  have em : m = n := (cn_inj (by omega) (by omega)).mp (g3.symm.trans (by rw [show (1 + 1 : Nat) = 2 from rfl, r2]; exact e2))
  have em0 : m0 = n := (cn_inj (by omega) (by omega)).mp (g03.symm.trans e2)
  subst em
  rw [show u.1 3 (r' * 11 + c') = t.1 89 (ixG r' c') from gx r' c' hr (by omega), show a.1 3 (r' * 11 + c') = b.1 89 (ixG r' c') from gx0 r' c' (by omega) (by omega)]
  refine r.2.1 _ ?_
  rcases ixG_cases (r := r') (show c' < 11 by omega) with q | q | q | q | q | q <;> omega
end
