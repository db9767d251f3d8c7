noncomputable section
/-! AT WHICH DOOR TO KNOCK FIRST -/
def rgN (w : Nat → Int32) (i : Nat) : Nat := (w (203 + 4 * i)).toInt.toNat
def srR (w : Nat → Int32) (m i : Nat) : Int := (sureN w m (rgN w i)).toInt
/-- i is ahead of r -/
def ahB (f : Nat → Int) (i r : Nat) : Bool := decide (f i < f r ∨ (f i = f r ∧ i < r))
theorem ah_t {f : Nat → Int} {i r : Nat} (h : f i < f r ∨ (f i = f r ∧ i < r)) : ahB f i r = true := decide_eq_true h
theorem ah_f {f : Nat → Int} {i r : Nat} (h : ahB f i r = true) : f i < f r ∨ (f i = f r ∧ i < r) := of_decide_eq_true h
def kN (f : Nat → Int) (r : Nat) : Nat → Nat
  | 0 => 0
  | i + 1 => if ahB f i r = true then kN f r i + 1 else kN f r i
theorem kN_0 {f : Nat → Int} {r : Nat} : kN f r 0 = 0 := rfl
theorem kN_s {f : Nat → Int} {r i : Nat} : kN f r (i + 1) = if ahB f i r = true then kN f r i + 1 else kN f r i := rfl
theorem kN_b {f : Nat → Int} {r : Nat} : ∀ i, kN f r i ≤ i := by
  intro i
  induction i with
  | zero => exact Nat.le_refl _
  | succ i ih =>
    rw [kN_s]
    by_cases e : ahB f i r = true
    · rw [if_pos e]; omega
    · rw [if_neg e]; omega
theorem rg_of {b : mG} {n rm i : Nat} (hC : CRs b) (g2 : b.1 89 112 = cn n) (hn : n ≤ 12) (hw : b.1 89 118 = cn rm) (hm : rm ≤ 8) (hi : i < rm) : rgN (b.1 89) i < n ∧ b.1 89 (203 + 4 * i) = cn (rgN (b.1 89) i) := by
  obtain ⟨c1, c2⟩ := hC.1.1 i (by omega) (by rw [hw, t_cn (by omega)]; omega)
  rw [g2, t_cn (by omega)] at c2
  unfold rgN
  exact ⟨by omega, cnof c1⟩
/-- the class weighs the rooms' guests -/
theorem V_rooms {a b : mG} {n nc m rm : Nat} {x : Int32} (hI : IM b) (hC : CRs b) (K : HK (b.1 89) n nc a) (g2 : b.1 89 112 = cn n) (hm : m ≤ 6) (h3 : a.1 10 3 = cn m) (hr : rm ≤ 8) (h14 : a.1 14 3 = cn rm) (hwr : b.1 89 118 = cn rm) {R : Int32 × mG → Prop} (hR : ∀ u, (∀ i, i < rm → Su (u.1 84 i) (sureN (b.1 89) m (rgN (b.1 89) i))) → u.1 14 3 = cn rm → pk (F_X9_roomAt_L51 x (ci 0) u) R) : pk (F_X9_roomAt_L2 x (ci 0) a) R := by
  have hn := K.2.2.1
  unfold F_X9_roomAt_L2
  refine pk_whl (fun v => ∃ (k : Nat) (s : mG), k ≤ rm ∧ v = (x, cn k, s) ∧ (∀ i, i < k → Su (s.1 84 i) (sureN (b.1 89) m (rgN (b.1 89) i))) ∧ ∀ j, j ≠ 69 → j ≠ 70 → j ≠ 74 → j ≠ 84 → s.1 j = a.1 j) ⟨0, a, Nat.zero_le _, rfl, fun i hi => absurd hi (by omega), fun _ _ _ _ _ => rfl⟩ (fun v hv => ?_)
  obtain ⟨k, s, hk, ev, q2, r⟩ := hv
  rw [ev]
  have Ks : HK (b.1 89) n nc s := HK_low K (fun j h1 h2 => r j (by omega) (by omega) (by omega) (by omega))
  have s14 : s.1 14 3 = cn rm := by rw [r 14 (by decide) (by decide) (by decide) (by decide)]; exact h14
  unfold F_X9_roomAt_B2
  dsimp only
  rw [s14]
  by_cases hkr : rm ≤ k
  · have ek : k = rm := by omega
    rw [ek] at q2
    rw [if_pos ((cn_le (by omega) (by omega)).mpr hkr)]
    exact pk_b1r (hR s q2 s14)
  obtain ⟨hg, eg⟩ := rg_of hC g2 hn hwr hr (by omega : k < rm)
  rw [if_neg (fun q => hkr ((cn_le (by omega) (by omega)).mp q)), V_atR (c := 0) (k := ci 0) Ks.1.2.2.2.2.2.2.1 s14 hr (by omega) (by decide) rfl, b1_some, show ixR k 0 = 203 + 4 * k from rfl, eg]
  refine pk_b2 (V_sureC hI Ks hg (by rw [r 10 (by decide) (by decide) (by decide) (by decide)]; exact h3) hm) (fun v10 s9 qt => ?_)
  obtain ⟨t1o, _, t2o⟩ := qt
  have t1 : Su v10 (sureN (b.1 89) m (rgN (b.1 89) k)) := t1o
  have t2 : ∀ j, j ≠ 69 → j ≠ 70 → j ≠ 74 → s9.1 j = s.1 j := t2o
  rw [V_putJ sh84 (by omega) (by decide), b1_some]
  refine pk_some (show ∃ (k' : Nat) (s' : mG), _ from ⟨k + 1, (mu s9.1 84 k v10, s9.2), by omega, by rw [cnu (by omega)], fun i hi => ?_, fun j h1 h2 h4 h5 => ?_⟩)
  · show Su (mu s9.1 84 k v10 84 i) _
    by_cases e : i = k
    · rw [e, mu_same]; exact t1
    · rw [mu_cell (Or.inr e), t2 84 (by decide) (by decide) (by decide)]
      exact q2 i (by omega)
  · show mu s9.1 84 k v10 j = a.1 j
    exact (mu_row h5).trans ((t2 j h1 h2 h4).trans (r j h1 h2 h4 h5))
theorem V_beforeC {w : Nat → Int32} {u : mG} {m rm r : Nat} (hr : rm ≤ 8) (h14 : u.1 14 3 = cn rm) (h84 : ∀ i, i < rm → Su (u.1 84 i) (sureN w m (rgN w i))) (hrr : r < rm) : pk (F_X9_roomsBefore u (cn r)) (fun v => v = cn (kN (srR w m) r rm)) := by
  unfold F_X9_roomsBefore F_X9_roomsBefore_L4
  refine pk_whl (fun v => ∃ k : Nat, k ≤ rm ∧ v = (cn r, cn (kN (srR w m) r k), cn k)) ⟨0, Nat.zero_le _, rfl⟩ (fun v hv => ?_)
  obtain ⟨k, hk, ev⟩ := hv
  rw [ev]
  have bb := kN_b (f := srR w m) (r := r) k
  unfold F_X9_roomsBefore_B4 F_X9_roomsBefore_42 F_X9_roomsBefore_68 F_X9_roomsBefore_90 F_X9_roomsBefore_86 F_X9_roomsBefore_91
  dsimp only
  rw [h14]
  by_cases hkr : rm ≤ k
  · have ek : k = rm := by omega
    rw [if_pos ((cn_le (by omega) (by omega)).mpr hkr), ek]
    exact pk_some (show cn (kN (srR w m) r rm) = _ from rfl)
  have a1 := h84 k (by omega)
  have a2 := h84 r hrr
  have z0 : cn (kN (srR w m) r k) + ci 0 = cn (kN (srR w m) r k) := Int32.add_zero _
  have on : ∀ y : Int32, y = cn (kN (srR w m) r (k + 1)) → ∃ k' : Nat, k' ≤ rm ∧ ((cn r, y, cn k + ci 1) : Int32 × Int32 × Int32) = (cn r, cn (kN (srR w m) r k'), cn k') := fun y e => ⟨k + 1, by omega, by rw [cnu (by omega), e]⟩
  have fk : srR w m k = (u.1 84 k).toInt := Su_t a1
  have fr : srR w m r = (u.1 84 r).toInt := Su_t a2
  rw [if_neg (fun q => hkr ((cn_le (by omega) (by omega)).mp q)), V_cellJ (j := 84) (k := k) sh84 (by omega) (by decide), b1_some, V_cellJ (j := 84) (k := r) sh84 (by omega) (by decide), b1_some]
  by_cases h1 : u.1 84 r ≤ u.1 84 k
  · have h1' := Int32.le_iff_toInt_le.mp h1
    rw [if_pos h1, b1_some, b1_some]
    by_cases h2 : u.1 84 k = u.1 84 r
    · rw [if_pos h2, if_pos c0e0, if_neg c1n0]
      have e2 : srR w m k = srR w m r := by rw [fk, fr, h2]
      by_cases h3 : r ≤ k
      · rw [if_pos ((cn_le (by omega) (by omega)).mpr h3), z0]
        refine pk_some (on _ ?_)
        rw [kN_s, if_neg (fun q => by have := ah_f q; omega)]
      · rw [if_neg (fun q => h3 ((cn_le (by omega) (by omega)).mp q)), show cn (kN (srR w m) r k) + ci 1 = cn (kN (srR w m) r k + 1) from cnu (by omega)]
        refine pk_some (on _ ?_)
        rw [kN_s, if_pos (ah_t (Or.inr ⟨e2, by omega⟩))]
    · rw [if_neg h2, if_pos c0e0, if_pos c0e0, z0]
      have e2 : ¬ (u.1 84 k).toInt = (u.1 84 r).toInt := fun q => h2 (Int32.toInt_inj.mp q)
      refine pk_some (on _ ?_)
      rw [kN_s, if_neg (fun q => by have := ah_f q; rw [fk, fr] at this; omega)]
  · rw [if_neg h1, b1_some, b1_some]
    have h1' : ¬ (u.1 84 r).toInt ≤ (u.1 84 k).toInt := fun q => h1 (Int32.le_iff_toInt_le.mpr q)
    have fin : ∀ y0 : Int32, pk (if ci 1 = 0 then if y0 = 0 then some (Sum.inl (cn r, cn (kN (srR w m) r k) + ci 0, cn k + ci 1)) else if cn r ≤ cn k then some (Sum.inl (cn r, cn (kN (srR w m) r k) + ci 0, cn k + ci 1)) else some (Sum.inl (cn r, cn (kN (srR w m) r k) + ci 1, cn k + ci 1)) else some (Sum.inl (cn r, cn (kN (srR w m) r k) + ci 1, cn k + ci 1))) (se (fun v : Int32 × Int32 × Int32 => ∃ k : Nat, k ≤ rm ∧ v = (cn r, cn (kN (srR w m) r k), cn k)) (fun v => v = cn (kN (srR w m) r rm))) := fun y0 => by
      rw [if_neg c1n0, show cn (kN (srR w m) r k) + ci 1 = cn (kN (srR w m) r k + 1) from cnu (by omega)]
      refine pk_some (on _ ?_)
      rw [kN_s, if_pos (ah_t (Or.inl (by rw [fk, fr]; omega)))]
    by_cases h2 : u.1 84 k = u.1 84 r
    · rw [if_pos h2]; exact fin (ci 1)
    · rw [if_neg h2]; exact fin (ci 0)
theorem V_aheadR {b t : mG} {n nc m rm i r : Nat} (hC : CRs b) (L : LTy nc (b.1 89)) (g2 : b.1 89 112 = cn n) (hn : n ≤ 12) (hw : b.1 89 115 = cn m) (hm : m ≤ 6) (hr : rm ≤ 8) (hwr : b.1 89 118 = cn rm) (hi : i < rm) (hrr : r < rm) (e : t.1 89 = b.1 89) : pk (F_X12_isKnockedAhead (cn i) (cn r) t) (fun τ => (τ.1 = if ahB (srR (b.1 89) m) i r = true then ci 1 else ci 0) ∧ ∀ j, j ≠ 96 → j ≠ 97 → τ.2.1 j = t.1 j) := by
  have oR : ∀ (s : mG) (k : Nat), k < 8 → pk (F_X12_ofRoom s (cn k) (ci 0)) (fun v => v = s.1 89 (203 + 4 * k)) := fun s k hk => by
    unfold F_X12_ofRoom
    rw [show ci 4 * cn k = cn (4 * k) from cn_mul (a := 4) (by omega) (by omega) (by omega), show c16 203 + cn (4 * k) = cn (203 + 4 * k) by rw [show c16 203 = cn 203 by decide]; exact cn_add (by omega), show cn (203 + 4 * k) + ci 0 = cn (203 + 4 * k) from Int32.add_zero _, cn_nat (n := 203 + 4 * k) (by omega)]
    exact pk_nn (pk_some rfl)
  obtain ⟨hg1, eg1⟩ := rg_of hC g2 hn hwr hr hi
  obtain ⟨hg2, eg2⟩ := rg_of hC g2 hn hwr hr hrr
  unfold F_X12_isKnockedAhead F_X12_isKnockedAhead_42 F_X12_isKnockedAhead_46
  refine pk_b1 (oR t i (by omega)) (fun v2 h2 => ?_)
  rw [h2, e, eg1]
  refine pk_b2 (V_sureS L hn hg1 hw hm e) (fun v5 s4 qt => ?_)
  obtain ⟨t1o, t2o, _⟩ := qt
  have t1 : v5 = sureN (b.1 89) m (rgN (b.1 89) i) := t1o
  have t2 : ∀ j, j ≠ 96 → j ≠ 97 → s4.1 j = t.1 j := t2o
  have e4 : s4.1 89 = b.1 89 := (t2 89 (by decide) (by decide)).trans e
  refine pk_b1 (oR s4 r (by omega)) (fun v7 h7 => ?_)
  rw [h7, e4, eg2]
  refine pk_b2 (V_sureS L hn hg2 hw hm e4) (fun v10 s9 qs => ?_)
  obtain ⟨w1o, w2o, _⟩ := qs
  have w1 : v10 = sureN (b.1 89) m (rgN (b.1 89) r) := w1o
  have w2 : ∀ j, j ≠ 96 → j ≠ 97 → s9.1 j = s4.1 j := w2o
  have fr : ∀ j, j ≠ 96 → j ≠ 97 → s9.1 j = t.1 j := fun j h1 h2 => (w2 j h1 h2).trans (t2 j h1 h2)
  have f1 : srR (b.1 89) m i = v5.toInt := by rw [t1]; rfl
  have f2 : srR (b.1 89) m r = v10.toInt := by rw [w1]; rfl
  have yes : ahB (srR (b.1 89) m) i r = true → pk (some (ci 1, s9)) (fun τ => (τ.1 = if ahB (srR (b.1 89) m) i r = true then ci 1 else ci 0) ∧ ∀ j, j ≠ 96 → j ≠ 97 → τ.2.1 j = t.1 j) := fun q => pk_some (show ci 1 = _ ∧ _ from ⟨by rw [if_pos q], fr⟩)
  have no : ¬ ahB (srR (b.1 89) m) i r = true → pk (some (ci 0, s9)) (fun τ => (τ.1 = if ahB (srR (b.1 89) m) i r = true then ci 1 else ci 0) ∧ ∀ j, j ≠ 96 → j ≠ 97 → τ.2.1 j = t.1 j) := fun q => pk_some (show ci 0 = _ ∧ _ from ⟨by rw [if_neg q], fr⟩)
  clear t1 w1
  refine pk_li (fun c => yes ?_) (fun c => ?_)
  · have c := (lg_cmp_lt _ _).mp c
    rw [Int64.lt_iff_toInt_lt] at c
    exact ah_t (Or.inl (by rw [f1, f2]; exact c))
  have c' : ¬ v5.toInt < v10.toInt := fun q => c ((lg_cmp_lt _ _).mpr (Int64.lt_iff_toInt_lt.mpr q))
  refine pk_li (fun d => ?_) (fun d => no (fun q => ?_))
  · have d := (lg_cmp_eq _ _).mp d
    refine pk_li (fun h => no (fun q => ?_)) (fun h => yes (ah_t (Or.inr ⟨by rw [f1, f2, d], ?_⟩)))
    · have h := (cn_le (by omega) (by omega)).mp h
      have q := ah_f q
      rw [f1, f2] at q
      omega
    · exact Nat.lt_of_not_le (fun q => h ((cn_le (by omega) (by omega)).mpr q))
  · have d' : ¬ v5.toInt = v10.toInt := fun q => d ((lg_cmp_eq _ _).mpr (Int64.toInt_inj.mp q))
    have q := ah_f q
    rw [f1, f2] at q
    omega
theorem V_aheadL {b t : mG} {n nc m rm r : Nat} {x : Int32} (hC : CRs b) (L : LTy nc (b.1 89)) (g2 : b.1 89 112 = cn n) (hn : n ≤ 12) (hw : b.1 89 115 = cn m) (hm : m ≤ 6) (hr : rm ≤ 8) (hwr : b.1 89 118 = cn rm) (hrr : r < rm) (e : ∀ j, j ≠ 96 → j ≠ 97 → t.1 j = b.1 j) : pk (F_X12_knocks_L18 x (cn r) (ci 0) (ci 0) t) (fun o => ∃ t' : mG, (∀ j, j ≠ 96 → j ≠ 97 → t'.1 j = b.1 j) ∧ o = if cn (kN (srR (b.1 89) m) r rm) = x then Sum.inr (cn r, t') else Sum.inl (x, cn r + ci 1, t')) := by
  unfold F_X12_knocks_L18
  refine pk_whl (fun v => ∃ (k : Nat) (t' : mG), k ≤ rm ∧ v = (x, cn r, cn (kN (srR (b.1 89) m) r k), cn k, t') ∧ ∀ j, j ≠ 96 → j ≠ 97 → t'.1 j = b.1 j) ⟨0, t, Nat.zero_le _, rfl, e⟩ (fun v hv => ?_)
  obtain ⟨k, t', hk, ev, rt⟩ := hv
  rw [ev]
  have bb := kN_b (f := srR (b.1 89) m) (r := r) k
  have e89 : t'.1 89 = b.1 89 := rt 89 (by decide) (by decide)
  unfold F_X12_knocks_B18 F_X12_knocks_51 F_X12_knocks_52
  dsimp only
  rw [e89, hwr]
  by_cases hkr : rm ≤ k
  · have ek : k = rm := by omega
    rw [if_pos ((cn_le (by omega) (by omega)).mpr hkr), ek]
    by_cases hx : cn (kN (srR (b.1 89) m) r rm) = x
    · rw [if_pos hx]
      exact pk_some (show ∃ t' : mG, _ from ⟨t', rt, by rw [if_pos hx]⟩)
    · rw [if_neg hx]
      exact pk_some (show ∃ t' : mG, _ from ⟨t', rt, by rw [if_neg hx]⟩)
  have z0 : cn (kN (srR (b.1 89) m) r k) + ci 0 = cn (kN (srR (b.1 89) m) r k) := Int32.add_zero _
  have on : ∀ (y : Int32) (t1 : mG), y = cn (kN (srR (b.1 89) m) r (k + 1)) → (∀ j, j ≠ 96 → j ≠ 97 → t1.1 j = b.1 j) → ∃ (k' : Nat) (t' : mG), k' ≤ rm ∧ ((x, cn r, y, cn k + ci 1, t1) : Int32 × Int32 × Int32 × Int32 × mG) = (x, cn r, cn (kN (srR (b.1 89) m) r k'), cn k', t') ∧ ∀ j, j ≠ 96 → j ≠ 97 → t'.1 j = b.1 j := fun y t1 e1 e2 => ⟨k + 1, t1, by omega, by rw [cnu (by omega), e1], e2⟩
  rw [if_neg (fun q => hkr ((cn_le (by omega) (by omega)).mp q)), z0]
  by_cases hkk : k = r
  · rw [if_pos (show cn k = cn r by rw [hkk])]
    refine pk_some (on _ t' ?_ rt)
    rw [kN_s, if_neg (fun q => by rw [hkk] at q; have := ah_f q; omega)]
  rw [if_neg (fun q => hkk ((cn_inj (by omega) (by omega)).mp q))]
  refine pk_b2 (V_aheadR hC L g2 hn hw hm hr hwr (by omega : k < rm) hrr e89) (fun v7 s6 qt => ?_)
  obtain ⟨t1o, t2o⟩ := qt
  have t1 : v7 = if ahB (srR (b.1 89) m) k r = true then ci 1 else ci 0 := t1o
  have t2 : ∀ j, j ≠ 96 → j ≠ 97 → s6.1 j = t'.1 j := t2o
  have fr : ∀ j, j ≠ 96 → j ≠ 97 → s6.1 j = b.1 j := fun j h1 h2 => (t2 j h1 h2).trans (rt j h1 h2)
  by_cases ha : ahB (srR (b.1 89) m) k r = true
  · rw [if_pos ha] at t1
    rw [t1, if_neg c1n0, show cn (kN (srR (b.1 89) m) r k) + ci 1 = cn (kN (srR (b.1 89) m) r k + 1) from cnu (by omega)]
    refine pk_some (on _ s6 ?_ fr)
    rw [kN_s, if_pos ha]
  · rw [if_neg ha] at t1
    rw [t1, if_pos c0e0]
    refine pk_some (on _ s6 ?_ fr)
    rw [kN_s, if_neg ha]
theorem R_knocks {a b : mG} {x : Int32} (hI : IM b) (hC : CRs b) (h : SIM a b) : rel (F_X11_knocks x a) (F_X12_knocks x b) (fun τ υ => τ.1 = υ.1) := by
  obtain ⟨n, nc, m, K, g2, V, hm, h3, hw⟩ := SIM_S h
  have hn := K.2.2.1
  obtain ⟨_, _, rm, hr, gr, gw, _⟩ := K.1.2.2.2.2.2.2.1
  have gr : a.1 14 3 = cn rm := gr
  unfold F_X11_knocks F_X12_knocks F_X9_roomAt
  rw [b2_id]
  intro τ hτ υ hυ
  refine V_rooms hI hC K g2 hm h3 hr gr gw (R := fun τ => ∀ υ, F_X12_knocks_L2 x (ci 0) b = some υ → τ.1 = υ.1) (fun u u84 u14 => ?_) τ hτ υ hυ
  have M : rel (F_X9_roomAt_L51 x (ci 0) u) (F_X12_knocks_L2 x (ci 0) b) (fun τ υ => τ.1 = υ.1) := by
    unfold F_X9_roomAt_L51 F_X12_knocks_L2
    refine rel_whl (fun v w => ∃ (k : Nat) (t : mG), k ≤ rm ∧ v = (x, cn k, u) ∧ w = (x, cn k, t) ∧ ∀ j, j ≠ 96 → j ≠ 97 → t.1 j = b.1 j) ⟨0, b, Nat.zero_le _, rfl, rfl, fun _ _ _ => rfl⟩ (fun v w hvw => ?_)
    obtain ⟨k, t, hk, ev, ew, rt⟩ := hvw
    rw [ev, ew]
    have e89 : t.1 89 = b.1 89 := rt 89 (by decide) (by decide)
    unfold F_X9_roomAt_B51 F_X12_knocks_B2
    dsimp only
    rw [u14, e89, gw]
    by_cases hkr : rm ≤ k
    · rw [if_pos ((cn_le (by omega) (by omega)).mpr hkr), if_pos ((cn_le (by omega) (by omega)).mpr hkr)]
      exact rel_some (show ci (-1) = ci (-1) from rfl)
    rw [if_neg (fun q => hkr ((cn_le (by omega) (by omega)).mp q)), if_neg (fun q => hkr ((cn_le (by omega) (by omega)).mp q))]
    refine rel_l1 (V_beforeC hr u14 u84 (by omega : k < rm)) (fun v4 h4 => ?_)
    have Q := V_aheadL (x := x) hC K.2.2.2.2 g2 hn hw hm hr gw (by omega : k < rm) rt
    rw [h4]
    by_cases hc : cn (kN (srR (b.1 89) m) k rm) = x
    · rw [if_pos hc]
      refine rel_sp Q (fun o ho => ?_)
      obtain ⟨t', fr, eo⟩ := ho
      rw [eo, if_pos hc]
      exact (show cn k = cn k from rfl)
    · rw [if_neg hc]
      refine rel_sp Q (fun o ho => ?_)
      obtain ⟨t', fr, eo⟩ := ho
      rw [eo, if_neg hc]
      exact (show ∃ (k' : Nat) (t : mG), _ from ⟨k + 1, t', by omega, by rw [cnu (by omega)], by rw [cnu (by omega)], fr⟩)
  exact fun τ hτ υ hυ => M τ hτ υ hυ
end
