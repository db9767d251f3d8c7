noncomputable section
/-! WHERE A CLERK STANDS: the class's plan -/
theorem al_79 : m_alen (78 + 1) = 48 := by decide +kernel
theorem al_81 : m_alen (80 + 1) = 48 := by decide +kernel
/-- the shapes of the plan's tables -/
def SHy (s : mG) : Prop := s.1 78 0 = cn 24 ∧ s.1 78 1 = cn 2 ∧ s.1 80 0 = cn 24 ∧ s.1 80 1 = cn 2
theorem SHy_row {s u : mG} (h : SHy s) (e78 : u.1 78 = s.1 78) (e80 : u.1 80 = s.1 80) : SHy u := by
  unfold SHy
  rw [e78, e80]
  exact h
def dHr (w : Nat → Int32) (c : Nat) : Int32 := (w 0 / c8 24) * c8 24 + cn c
def dGo (w : Nat → Int32) (c g : Nat) : Int32 := LV w (FAc w g (dHr w c) (w 113) (w (27 + g))) 0
def dFr (w : Nat → Int32) (c g : Nat) : Int32 := (dGo w c g * LV w (FAc w g (dHr w c) (w 113) (w (27 + g))) 4) / c16 1000
def dSum (w : Nat → Int32) (c d : Nat) : Nat → Int32
  | 0 => ci 0
  | g + 1 => if w (3 + g) = ci 1 then dSum w c d g else dSum w c d g + (if d = 0 then dFr w c g else dGo w c g - dFr w c g)
theorem dSum_0 {w : Nat → Int32} {c d : Nat} : dSum w c d 0 = ci 0 := rfl
theorem dSum_s {w : Nat → Int32} {c d g : Nat} : dSum w c d (g + 1) = if w (3 + g) = ci 1 then dSum w c d g else dSum w c d g + (if d = 0 then dFr w c g else dGo w c g - dFr w c g) := rfl
theorem KNc_row {w : Nat → Int32} {g : Nat} {h p s : Int32} {u v : mG} (k : KNc w g h p s u) (e : v.1 69 = u.1 69) : KNc w g h p s v := fun j hj => by
  rw [e]
  exact k j hj
theorem V_put78 {s : mG} {r c k : Nat} {v : Int32} (h1 : s.1 78 1 = cn 2) (h3 : s.1 78 3 = cn r) (hr : r ≤ 24) (hc : c < r) (hk : k < 2) : F_X10_put 78 (cn c) (cn k) v s = some (mu s.1 79 (c * 2 + k) v, s.2) := V_put rfl rfl h1 h3 hc hk (by rw [al_79]; omega) (by omega)
theorem V_put80 {s : mG} {r c k : Nat} {v : Int32} (h1 : s.1 80 1 = cn 2) (h3 : s.1 80 3 = cn r) (hr : r ≤ 24) (hc : c < r) (hk : k < 2) : F_X10_put 80 (cn c) (cn k) v s = some (mu s.1 81 (c * 2 + k) v, s.2) := V_put rfl rfl h1 h3 hc hk (by rw [al_81]; omega) (by omega)
theorem V_at78 {s : mG} {r c k : Nat} (h1 : s.1 78 1 = cn 2) (h3 : s.1 78 3 = cn r) (hr : r ≤ 24) (hc : c < r) (hk : k < 2) : F_X10_at 78 s (cn c) (cn k) = some (s.1 79 (c * 2 + k)) := V_at rfl rfl h1 h3 hc hk (by rw [al_79]; omega) (by omega)
theorem V_at80 {s : mG} {r c k : Nat} (h1 : s.1 80 1 = cn 2) (h3 : s.1 80 3 = cn r) (hr : r ≤ 24) (hc : c < r) (hk : k < 2) : F_X10_at 80 s (cn c) (cn k) = some (s.1 81 (c * 2 + k)) := V_at rfl rfl h1 h3 hc hk (by rw [al_81]; omega) (by omega)
theorem V_goings {w : Nat → Int32} {n nc c r : Nat} {a : mG} (K : HK w n nc a) (h0 : 0 ≤ (w 0).toInt ∧ (w 0).toInt ≤ 9999) (h1 : a.1 78 1 = cn 2) (h3 : a.1 78 3 = cn r) (hr : r ≤ 24) (hc : c < r) : pk (F_X1_countGoings (cn c) a) (fun u => u.1 79 (c * 2 + 0) = dSum w c 0 n ∧ u.1 79 (c * 2 + 1) = dSum w c 1 n ∧ (∀ k, k ≠ c * 2 + 0 → k ≠ c * 2 + 1 → u.1 79 k = a.1 79 k) ∧ ∀ j, j ≠ 69 → j ≠ 70 → j ≠ 79 → u.1 j = a.1 j) := by
  have hn := K.2.2.1
  have D := day_h h0 (by omega : c < 24)
  unfold F_X1_countGoings F_X1_countGoings_L7
  refine pk_whl (fun v => ∃ (g : Nat) (t : mG), g ≤ n ∧ v = (cn c, dSum w c 0 g, dSum w c 1 g, cn g, t) ∧ ∀ j, j ≠ 69 → j ≠ 70 → t.1 j = a.1 j) ⟨0, a, Nat.zero_le _, rfl, fun _ _ _ => rfl⟩ (fun v hv => ?_)
  obtain ⟨g, t, hg, ev, rt⟩ := hv
  rw [ev]
  have Kt : HK w n nc t := HK_low K (fun j k1 k2 => rt j (by omega) (by omega))
  unfold F_X1_countGoings_B7 F_X1_countGoings_92
  dsimp only
  rw [Kt.2.1]
  by_cases hgn : n ≤ g
  · have eg : g = n := by omega
    have y1 : t.1 78 1 = cn 2 := by rw [rt 78 (by decide) (by decide)]; exact h1
    have y3 : t.1 78 3 = cn r := by rw [rt 78 (by decide) (by decide)]; exact h3
    rw [if_pos ((cn_le (by omega) (by omega)).mpr hgn), eg, show ci 0 = cn 0 from rfl, V_put78 (k := 0) y1 y3 hr hc (by decide), b1_some, show ci 1 = cn 1 from rfl, V_put78 (k := 1) ((mu_cellQ (i := 79) (j := 78) (Or.inl (by decide))).trans y1) ((mu_cellQ (i := 79) (j := 78) (Or.inl (by decide))).trans y3) hr hc (by decide), b1_some]
    refine pk_some (show _ ∧ _ ∧ _ ∧ _ from ⟨?_, ?_, fun k k1 k2 => ?_, fun j j1 j2 j3 => ?_⟩)
    · show mu (mu t.1 79 (c * 2 + 0) (dSum w c 0 n)) 79 (c * 2 + 1) (dSum w c 1 n) 79 (c * 2 + 0) = _
      rw [mu_cell (Or.inr (by omega)), mu_same]
    · exact mu_sameQ
    · show mu (mu t.1 79 (c * 2 + 0) (dSum w c 0 n)) 79 (c * 2 + 1) (dSum w c 1 n) 79 k = _
      rw [mu_cell (Or.inr k2), mu_cell (Or.inr k1), rt 79 (by decide) (by decide)]
    · show mu (mu t.1 79 (c * 2 + 0) (dSum w c 0 n)) 79 (c * 2 + 1) (dSum w c 1 n) j = _
      rw [mu_row j3, mu_row j3, rt j j1 j2]
  rw [if_neg (fun q => hgn ((cn_le (by omega) (by omega)).mp q))]
  unfold F_X2_isOut
  rw [show (1 + 1 : Nat) = 2 from rfl, V_atG (c := 2) (k := ci 2) Kt.1.1 Kt.2.1 hn (by omega) (by decide) rfl, b1_some, show ixG g 2 = 3 + g from rfl]
  by_cases ho : w (3 + g) = ci 1
  · rw [if_pos ho, b1_some, if_neg c1n0]
    exact pk_some (show ∃ (g' : Nat) (t' : mG), _ from ⟨g + 1, t, by omega, by rw [dSum_s, dSum_s, if_pos ho, if_pos ho, cnu (by omega)], rt⟩)
  rw [if_neg ho, b1_some, if_pos c0e0]
  refine pk_b1 (V_faceK Kt (by omega : g < n)) (fun u qu => ?_)
  obtain ⟨k1, r1⟩ := qu
  rw [V_suppose (k := 3) (e := ci 3) rfl (by decide), b1_some]
  have k2 : KNc w g (dHr w c) (w 113) (w (27 + g)) ((mu u.1 69 3 (cn c), u.2) : mG) := KN_hour k1 D.1 D.2
  have ru : ∀ j, j ≠ 69 → ((mu u.1 69 3 (cn c), u.2) : mG).1 j = t.1 j := fun j j1 => (mu_rowQ j1).trans (r1 j j1)
  generalize ((mu u.1 69 3 (cn c), u.2) : mG) = u2 at k2 ru ⊢
  have Ku : HK w n nc u2 := HK_low Kt (fun j j1 j2 => ru j (by omega))
  rw [show ci 0 = cn 0 from rfl]
  refine pk_b2 (V_tellsK (x := 0) Ku k2 (by decide)) (fun v15 s14 qt => ?_)
  obtain ⟨t1o, t2o⟩ := qt
  have t1 : v15 = dGo w c g := t1o
  have t2 : ∀ j, j ≠ 70 → s14.1 j = u2.1 j := t2o
  have K4 : HK w n nc s14 := HK_low Ku (fun j j1 j2 => t2 j (by omega))
  rw [show ci 4 = cn 4 from rfl]
  refine pk_b2 (V_tellsK (x := 4) K4 (KNc_row k2 (t2 69 (by decide))) (by decide)) (fun v18 s17 qs => ?_)
  obtain ⟨w1o, w2o⟩ := qs
  have w1 : v18 = LV w (FAc w g (dHr w c) (w 113) (w (27 + g))) 4 := w1o
  have w2 : ∀ j, j ≠ 70 → s17.1 j = s14.1 j := w2o
  have e1 : (v15 * v18) / c16 1000 = dFr w c g := by rw [t1, w1]; rfl
  rw [e1, t1]
  exact pk_some (show ∃ (g' : Nat) (t' : mG), _ from ⟨g + 1, s17, by omega, by
    rw [dSum_s, dSum_s, if_neg ho, if_neg ho, if_pos rfl, if_neg (show ¬ 1 = 0 by decide), cnu (by omega)], fun j j1 j2 => (w2 j j2).trans ((t2 j j2).trans ((ru j j1).trans (rt j j1 j2)))⟩)
end
