noncomputable section
/-! WHAT TO SAY TO ALL -/
theorem V_atC {w : Nat → Int32} {s : mG} {n r c : Nat} {k : Int32} (hC : TWr 16 3 8 1049 ixC s.1 w) (h3 : s.1 16 3 = cn n) (hn : n ≤ 8) (hr : r < n) (hc : c < 3) (hk : k = cn c) : F_X10_at 16 s (cn r) k = some (w (ixC r c)) := TWr_at hC h3 hn hr hc rfl hk (by decide) (by rw [al_17]; decide)
theorem V_atR {w : Nat → Int32} {s : mG} {n r c : Nat} {k : Int32} (hC : TWr 14 4 8 118 ixR s.1 w) (h3 : s.1 14 3 = cn n) (hn : n ≤ 8) (hr : r < n) (hc : c < 4) (hk : k = cn c) : F_X10_at 14 s (cn r) k = some (w (ixR r c)) := TWr_at hC h3 hn hr hc rfl hk (by decide) (by rw [al_15]; decide)
theorem ig_in {g n : Nat} (hg : g < n) (hn : n < 2147483648) : ¬ ig (cn g) (cn n) = 0 := by
  unfold ig
  rw [if_neg (cn_nn (by omega)), if_neg (fun q => by have := (cn_le (by omega) (by omega)).mp q; omega)]
  exact c1n0
theorem V_sayR {b t : mG} {n nc g m : Nat} {p q : Int32} (L : LTy nc (b.1 89)) (g2 : b.1 89 112 = cn n) (hn : n ≤ 12) (hg : g < n) (hw : b.1 89 115 = cn m) (hm : m ≤ 6) (e : t.1 89 = b.1 89) (hp : 0 ≤ p.toInt ∧ p.toInt ≤ 999) (hq : 0 ≤ q.toInt ∧ q.toInt ≤ 999) : pk (F_X12_say (cn g) p q t) (fun τ => τ.1 = sayB (sureN (b.1 89) m g) p q ∧ ∀ j, j ≠ 96 → j ≠ 97 → τ.2.1 j = t.1 j) := by
  unfold F_X12_say
  have z0 : (ci 0).toInt = 0 := by decide
  have z9 : (c16 9999).toInt = 9999 := by decide
  rw [V_isGuestR (by rw [e]; exact g2) hn, b1_some, if_neg (ig_in hg (by omega)), V_isCost, b1_some, wi_in (by rw [z0]; exact hp.1) (by rw [z9]; exact Int.le_trans hp.2 (by decide)), if_neg c1n0, V_isCost, b1_some, wi_in (by rw [z0]; exact hq.1) (by rw [z9]; exact Int.le_trans hq.2 (by decide)), if_neg c1n0]
  refine pk_b2 (V_sureS L hn hg hw hm e) (fun v12 s11 qt => ?_)
  obtain ⟨t1o, t2o, _⟩ := qt
  have t1 : v12 = sureN (b.1 89) m g := t1o
  have t2 : ∀ j, j ≠ 96 → j ≠ 97 → s11.1 j = t.1 j := t2o
  rw [t1]
  unfold sayB
  by_cases hc : 0 < lg_cmp ((cl 1000000 - sureN (b.1 89) m g) * p.toInt64) (sureN (b.1 89) m g * q.toInt64)
  · rw [if_pos hc]
    exact pk_some (show ci 0 = _ ∧ _ from ⟨by rw [if_pos hc], t2⟩)
  · rw [if_neg hc]
    exact pk_some (show ci 1 = _ ∧ _ from ⟨by rw [if_neg hc], t2⟩)
theorem V_share {s : mG} {x y : Int32} : F_X11_share s x y = some ((x.toInt64 * y.toInt64) / cl 1000000).toInt32 := rfl
theorem R_saidL {a b : mG} {n nc m mc : Nat} {x : Int32} (hI : IM b) (hC : CRs b) (K : HK (b.1 89) n nc a) (g2 : b.1 89 112 = cn n) (hm : m ≤ 6) (h3 : a.1 10 3 = cn m) (hw : b.1 89 115 = cn m) (hmc : mc ≤ 8) (h16 : a.1 16 3 = cn mc) (hwc : b.1 89 1049 = cn mc) : rel (F_X0_saidToAll_L7 x (ci 0) (ci 0) (ci 0) a) (F_X12_said_L18 x (ci 0) (ci 0) (ci 0) b) (fun τ υ => τ.1 = υ.1) := by
  have hn := K.2.2.1
  unfold F_X0_saidToAll_L7 F_X12_said_L18
  refine rel_whl (fun v w => ∃ (k : Nat) (p q : Int32) (s t : mG), k ≤ mc ∧ v = (x, p, q, cn k, s) ∧ w = (x, p, q, cn k, t) ∧ (∀ j, j ≠ 69 → j ≠ 70 → j ≠ 74 → s.1 j = a.1 j) ∧ ∀ j, j ≠ 96 → j ≠ 97 → t.1 j = b.1 j) ⟨0, ci 0, ci 0, a, b, Nat.zero_le _, rfl, rfl, fun _ _ _ _ => rfl, fun _ _ _ => rfl⟩ (fun v w hvw => ?_)
  obtain ⟨k, p, q, s, t, hk, ev, ew, rs, rt⟩ := hvw
  rw [ev, ew]
  have Ks : HK (b.1 89) n nc s := HK_low K (fun j h1 h2 => rs j (by omega) (by omega) (by omega))
  have e89 : t.1 89 = b.1 89 := rt 89 (by decide) (by decide)
  have s16 : s.1 16 3 = cn mc := by rw [rs 16 (by decide) (by decide) (by decide)]; exact h16
  unfold F_X0_saidToAll_B7 F_X12_said_B18
  dsimp only
  rw [s16, e89, hwc]
  by_cases hkm : mc ≤ k
  · rw [if_pos ((cn_le (by omega) (by omega)).mpr hkm), if_pos ((cn_le (by omega) (by omega)).mpr hkm)]
    exact rel_ifs Iff.rfl (fun _ => rel_some (show p = p from rfl)) (fun _ => rel_some (show q = q from rfl))
  have cr := hC.1.2 k (by omega) (by rw [hwc, t_cn (by omega)]; omega)
  obtain ⟨⟨c1, c2⟩, c3, c4⟩ := cr
  rw [g2, t_cn (by omega)] at c2
  obtain ⟨g, hg, eg⟩ : ∃ g : Nat, g < n ∧ b.1 89 (1870 + 3 * k) = cn g := ⟨(b.1 89 (1870 + 3 * k)).toInt.toNat, by omega, cnof c1⟩
  rw [if_neg (fun q => hkm ((cn_le (by omega) (by omega)).mp q)), if_neg (fun q => hkm ((cn_le (by omega) (by omega)).mp q)), V_atC (c := 0) (k := ci 0) Ks.1.2.2.2.2.2.2.2.1 s16 hmc (by omega) (by decide) rfl, b1_some, show ixC k 0 = 1870 + 3 * k from rfl, eg, show ci 3 * cn k = cn (3 * k) from cn_mul (a := 3) (by omega) (by omega) (by omega), show c16 1870 + cn (3 * k) = cn (1870 + 3 * k) from cn_add (a := 1870) (by omega), show cn (1870 + 3 * k) + ci 1 = cn (1870 + 3 * k + 1) from cn_add (b := 1) (by omega), show cn (1870 + 3 * k) + ci 2 = cn (1870 + 3 * k + 2) from cn_add (b := 2) (by omega), cn_nat (n := 1870 + 3 * k) (by omega), cn_nat (n := 1870 + 3 * k + 1) (by omega), cn_nat (n := 1870 + 3 * k + 2) (by omega), eg]
  refine rel_l2 (V_sureC hI Ks hg (by rw [rs 10 (by decide) (by decide) (by decide)]; exact h3) hm) (fun v7 s6 qt => ?_)
  obtain ⟨t1o, _, t2o⟩ := qt
  have t1 : Su v7 (sureN (b.1 89) m g) := t1o
  have t2 : ∀ j, j ≠ 69 → j ≠ 70 → j ≠ 74 → s6.1 j = s.1 j := t2o
  have r6 : ∀ j, j ≠ 69 → j ≠ 70 → j ≠ 74 → s6.1 j = a.1 j := fun j h1 h2 h3 => (t2 j h1 h2 h3).trans (rs j h1 h2 h3)
  have K6 : HK (b.1 89) n nc s6 := HK_low K (fun j h1 h2 => r6 j (by omega) (by omega) (by omega))
  have s616 : s6.1 16 3 = cn mc := by rw [r6 16 (by decide) (by decide) (by decide)]; exact h16
  rw [V_atC (c := 1) (k := ci 1) K6.1.2.2.2.2.2.2.2.1 s616 hmc (by omega) (by decide) rfl, b1_some, V_atC (c := 2) (k := ci 2) K6.1.2.2.2.2.2.2.2.1 s616 hmc (by omega) (by decide) rfl, b1_some, show ixC k 1 = 1870 + 3 * k + 1 from rfl, show ixC k 2 = 1870 + 3 * k + 2 from rfl, V_bestSaid, b1_some, ← t1.1]
  refine rel_rg (rel_rg (rel_rg ?_))
  refine rel_r2 (V_sayR K.2.2.2.2 g2 hn hg hw hm e89 c3 c4) (fun v12 s11 qs => ?_)
  obtain ⟨w1o, w2o⟩ := qs
  have w1 : v12 = sayB (sureN (b.1 89) m g) (b.1 89 (1870 + 3 * k + 1)) (b.1 89 (1870 + 3 * k + 2)) := w1o
  have w2 : ∀ j, j ≠ 96 → j ≠ 97 → s11.1 j = t.1 j := w2o
  have f89 : s11.1 89 = b.1 89 := (w2 89 (by decide) (by decide)).trans e89
  have on : ∀ (p' q' : Int32) (s1 t1 : mG), (∀ j, j ≠ 69 → j ≠ 70 → j ≠ 74 → s1.1 j = a.1 j) → (∀ j, j ≠ 96 → j ≠ 97 → t1.1 j = b.1 j) → ∃ (k' : Nat) (p q : Int32) (s t : mG), k' ≤ mc ∧ ((x, p', q', cn k + ci 1, s1) : Int32 × Int32 × Int32 × Int32 × mG) = (x, p, q, cn k', s) ∧ ((x, p', q', cn k + ci 1, t1) : Int32 × Int32 × Int32 × Int32 × mG) = (x, p, q, cn k', t) ∧ (∀ j, j ≠ 69 → j ≠ 70 → j ≠ 74 → s.1 j = a.1 j) ∧ ∀ j, j ≠ 96 → j ≠ 97 → t.1 j = b.1 j := fun p' q' s1 t1 h1 h2 => ⟨k + 1, p', q', s1, t1, by omega, by rw [cnu (by omega)], by rw [cnu (by omega)], h1, h2⟩
  unfold F_X12_said_79 F_X12_said_108 F_X12_said_149 F_X0_saidToAll_97 F_X0_saidToAll_125
  rw [f89, cn_nat (n := 1870 + 3 * k) (by omega), eg]
  have hz := sayB_r (y := sureN (b.1 89) m g) (p := b.1 89 (1870 + 3 * k + 1)) (q := b.1 89 (1870 + 3 * k + 2))
  generalize sayB (sureN (b.1 89) m g) (b.1 89 (1870 + 3 * k + 1)) (b.1 89 (1870 + 3 * k + 2)) = z at w1 hz ⊢
  have n01 : ¬ ci 0 = ci 1 := by decide
  rcases hz with ez | ez
  · rw [w1, ez, if_pos c0e0, if_pos c0e0, if_neg n01, V_share, b1_some, ← t1.1]
    refine rel_rg (rel_r2 (V_sureS K.2.2.2.2 hn hg hw hm f89) (fun v17 s16 qr => ?_))
    obtain ⟨y1o, y2o, _⟩ := qr
    have y1 : v17 = sureN (b.1 89) m g := y1o
    have y2 : ∀ j, j ≠ 96 → j ≠ 97 → s16.1 j = s11.1 j := y2o
    have r16 : ∀ j, j ≠ 96 → j ≠ 97 → s16.1 j = b.1 j := fun j h1 h2 => (y2 j h1 h2).trans ((w2 j h1 h2).trans (rt j h1 h2))
    rw [if_pos c0e0, if_pos c0e0, y1, r16 89 (by decide) (by decide), show cn (1870 + 3 * k) + ci 2 = cn (1870 + 3 * k + 2) from cn_add (b := 2) (by omega), cn_nat (n := 1870 + 3 * k + 2) (by omega), Int64.mul_comm (sureN (b.1 89) m g)]
    exact rel_rg (rel_some (on _ _ _ _ r6 r16))
  · rw [w1, ez, if_neg c1n0, if_neg c1n0, if_pos rfl, V_share, b1_some, x64_sub t1.2, ← t1.1]
    refine rel_rg (rel_r2 (V_sureS K.2.2.2.2 hn hg hw hm f89) (fun v17 s16 qr => ?_))
    obtain ⟨y1o, y2o, _⟩ := qr
    have y1 : v17 = sureN (b.1 89) m g := y1o
    have y2 : ∀ j, j ≠ 96 → j ≠ 97 → s16.1 j = s11.1 j := y2o
    have r16 : ∀ j, j ≠ 96 → j ≠ 97 → s16.1 j = b.1 j := fun j h1 h2 => (y2 j h1 h2).trans ((w2 j h1 h2).trans (rt j h1 h2))
    rw [if_neg c1n0, if_neg c1n0, y1, r16 89 (by decide) (by decide), show cn (1870 + 3 * k) + ci 1 = cn (1870 + 3 * k + 1) from cn_add (b := 1) (by omega), cn_nat (n := 1870 + 3 * k + 1) (by omega), Int64.mul_comm (cl 1000000 - sureN (b.1 89) m g)]
    exact rel_rg (rel_some (on _ _ _ _ r6 r16))
theorem R_said {a b : mG} {x : Int32} (hI : IM b) (hC : CRs b) (h : SIM a b) : rel (F_X11_said x a) (F_X12_said x b) (fun τ υ => τ.1 = υ.1) := by
  obtain ⟨n, nc, m, K, g2, V, hm, h3, hw⟩ := SIM_S h
  obtain ⟨_, _, mc, hmc, gc, gw, _⟩ := K.1.2.2.2.2.2.2.2.1
  have R := R_saidL (x := x) hI hC K g2 hm h3 hw hmc gc gw
  unfold F_X11_said F_X12_said F_X11_said_23 F_X0_saidToAll
  rw [V_within, F_isIn, b1_some, b1_some]
  refine rel_ifs Iff.rfl (fun _ => rel_some rfl) (fun hx => ?_)
  obtain ⟨c, hc, ey⟩ := wi_cn (l := 1) (by omega) hx
  rcases (show c = 0 ∨ c = 1 by omega) with e | e <;> rw [e] at ey
  · rw [if_neg (show ¬ x = ci 1 by rw [ey]; decide), b2_id]
    rw [show x = ci 0 from ey] at R ⊢
    exact R
  · rw [if_pos (show x = ci 1 from ey), b2_id]
    rw [show x = ci 1 from ey] at R ⊢
    exact R
end
