noncomputable section
/-! WHAT THE LAW TELLS: one number, on both sides -/
def EVw (w f : Nat → Int32) (a b : Nat) : Int32 := (evs (fun j => w (1050 + j)) f a (b - a) []).headD (ci 0)
def clL (v : Int32) : Int32 := imax (ci 0) (imin v (c16 1000))
/-- told by no line -/
def LVd (x : Nat) (o : Int32) : Int32 := if x = 5 then (if o = 0 then c16 900 else c8 100) else m_unt.getD x 0
def LVf (w f : Nat → Int32) (x : Nat) : Nat → Nat → Int32
  | 0, _ => LVd x (f 8)
  | m + 1, r => if w (1033 + r) = cn (20 + x) ∧ (w (1017 + r) = w (1001 + r) ∨ EVw w f (w (1001 + r)).toNatClampNeg (w (1017 + r)).toNatClampNeg = ci 1) then clL (EVw w f (w (985 + r)).toNatClampNeg (w (1001 + r)).toNatClampNeg) else LVf w f x m (r + 1)
def LV (w f : Nat → Int32) (x : Nat) : Int32 := LVf w f x (w 117).toNatClampNeg 0
/-- the lines of a law, and what their code pushes -/
def LTl (nc : Nat) (w : Nat → Int32) (r : Nat) : Prop := ∃ a b c : Nat, a ≤ b ∧ b ≤ c ∧ c ≤ nc ∧ w (985 + r) = cn a ∧ w (1001 + r) = cn b ∧ w (1017 + r) = cn c ∧ Rt (fun j => w (1050 + j)) a (b - a) [] [false] ∧ (b = c ∨ Rt (fun j => w (1050 + j)) b (c - b) [] [true])
def LTy (nc : Nat) (w : Nat → Int32) : Prop := nc ≤ 400 ∧ ∃ n, n ≤ 16 ∧ w 117 = cn n ∧ ∀ r, r < n → LTl nc w r
theorem ev_one {c f : Nat → Int32} {k n : Nat} {b : Bool} (h : Rt c k n [] [b]) : ∃ x, evs c f k n [] = [x] ∧ (b = true → PBz x) := by
  have q := Rt_ty (f := f) n k [] [b] [] h trivial
  obtain ⟨x, r, e, h1, h2⟩ := tyd_1 q
  cases r with
  | nil => exact ⟨x, e, h1⟩
  | cons y r => cases h2
theorem sub_k {a b : Nat} (h : a ≤ b) : a + (b - a) = b := by omega
/-- a piece of the law's code, here .. -/
theorem V_valC {w f : Nat → Int32} {z a : mG} {nc p q : Nat} {b : Bool} (hf : ∀ j, j < 9 → z.1 69 j = f (j + 1)) (h1 : z.1 8 1 = cn 1) (h3 : z.1 8 3 = cn nc) (hnc : nc ≤ 400) (hE : ∀ j, j < nc → EN (z.1 9 j) (w (1050 + 2 * j)) (w (1050 + 2 * j + 1))) (hz : ∀ j, j ≠ 70 → a.1 j = z.1 j) (hpq : p ≤ q) (hq : q ≤ nc) (hR : Rt (fun j => w (1050 + j)) p (q - p) [] [b]) : pk (F_X3_valueOf (cn p) (cn q) a) (fun τ => τ.1 = EVw w f p q ∧ (b = true → PBz τ.1) ∧ ∀ j, j ≠ 70 → τ.2.1 j = z.1 j) := by
  unfold F_X3_valueOf
  intro τ hτ
  have g := V_valueOf hf h1 h3 hnc hE (q - p) p [] [] [b] a (by omega) hR trivial trivial (by decide) hz
  rw [sub_k hpq] at g
  obtain ⟨g1, g2⟩ := g τ hτ
  obtain ⟨x, e, hb⟩ := ev_one (f := f) hR
  refine ⟨g1, fun hb1 => ?_, g2⟩
  rw [g1, e]
  exact hb hb1
/-- .. and there -/
theorem V_valR {f : Nat → Int32} {z a : mG} {p q : Nat} {b : Bool} (hf : ∀ j, 1 ≤ j → j < 10 → z.1 97 j = f j) (hz : ∀ j, j ≠ 96 → a.1 j = z.1 j) (hpq : p ≤ q) (hq : q ≤ 400) (hR : Rt (fun j => z.1 89 (1050 + j)) p (q - p) [] [b]) : pk (F_X12_comesTo (ci 0) (cn p) (cn q) a) (fun τ => τ.1 = EVw (z.1 89) f p q ∧ (b = true → PBz τ.1) ∧ ∀ j, j ≠ 96 → τ.2.1 j = z.1 j) := by
  unfold F_X12_comesTo
  intro τ hτ
  have g := V_comesTo hf (q - p) p [] [] [b] a (by omega) hR trivial trivial (by decide) hz
  rw [sub_k hpq] at g
  obtain ⟨g1, g2, g3⟩ := g τ hτ
  obtain ⟨x, e, hb⟩ := ev_one (f := f) hR
  rw [e] at g2
  have ex : τ.1 = x := g1.trans g2.1
  refine ⟨?_, fun hb1 => by rw [ex]; exact hb hb1, g3⟩
  unfold EVw
  rw [e]
  exact ex
theorem clL_eq {s : mG} {v : Int32} : (b1 (F_X12_lesser s (c16 1000) v) fun v31 => F_X12_greater s (ci 0) v31) = some (clL v) := by
  have e : F_X12_lesser s (c16 1000) v = some (imin v (c16 1000)) := by
    unfold F_X12_lesser imin
    by_cases h : c16 1000 < v
    · rw [if_neg (fun q => absurd h (Int32.not_lt.mpr q)), if_pos h]
    · rw [if_pos (Int32.not_lt.mp h), if_neg h]
  rw [e, b1_some]
  unfold F_X12_greater clL imax
  by_cases h : ci 0 < imin v (c16 1000)
  · rw [if_pos (Int32.le_of_lt h), if_pos h]
  · rw [if_neg h]
    by_cases h2 : ci 0 ≤ imin v (c16 1000)
    · rw [if_pos h2, Int32.le_antisymm (Int32.not_lt.mp h) h2]
    · rw [if_neg h2]
theorem clL_b {v : Int32} : 0 ≤ (clL v).toInt ∧ (clL v).toInt ≤ 1000 := by
  unfold clL imax imin
  have c1 : (c16 1000).toInt = 1000 := by decide
  have c0 : (ci 0).toInt = 0 := by decide
  by_cases h1 : c16 1000 < v
  · rw [if_pos h1]
    by_cases h2 : ci 0 < c16 1000
    · rw [if_pos h2, c1]; omega
    · rw [if_neg h2, c0]; omega
  · rw [if_neg h1]
    have g1 := r_nlt c1 rfl h1
    by_cases h2 : ci 0 < v
    · rw [if_pos h2]
      have g2 := r_lt c0 rfl h2
      omega
    · rw [if_neg h2, c0]; omega
theorem LVd_b {x : Nat} {o : Int32} (hx : x < 6) : 0 ≤ (LVd x o).toInt ∧ (LVd x o).toInt ≤ 1000 := by
  unfold LVd
  by_cases h : x = 5
  · rw [if_pos h]
    by_cases h2 : o = 0
    · rw [if_pos h2]; decide
    · rw [if_neg h2]; decide
  · rw [if_neg h]
    have t : ∀ x, x < 5 → 0 ≤ (m_unt.getD x 0).toInt ∧ (m_unt.getD x 0).toInt ≤ 1000 := by decide +kernel
    exact t x (by omega)
theorem LVf_b {w f : Nat → Int32} {x : Nat} (hx : x < 6) : ∀ m r, 0 ≤ (LVf w f x m r).toInt ∧ (LVf w f x m r).toInt ≤ 1000 := by
  intro m
  induction m with
  | zero => intro r; exact LVd_b hx
  | succ m ih =>
    intro r
    unfold LVf
    split
    · exact clL_b
    · exact ih (r + 1)
theorem LV_b {w f : Nat → Int32} {x : Nat} (hx : x < 6) : 0 ≤ (LV w f x).toInt ∧ (LV w f x).toInt ≤ 1000 := LVf_b hx _ _
theorem al_7 : m_alen (6 + 1) = 64 := by decide +kernel
/-- what is asked of a law to be told alike -/
def LWC (nc : Nat) (D : Nat → Nat → Int32) (w : Nat → Int32) : Prop := LWr 6 D w ∧ CWr 8 D w ∧ D 8 3 = cn nc ∧ LTy nc w
theorem V_tells {w f : Nat → Int32} {a : mG} {nc x : Nat} (hL : LWC nc a.1 w) (hf : ∀ j, j < 9 → a.1 69 j = f (j + 1)) (hx : x < 6) : pk (F_X3_tells (cn x) a) (fun τ => τ.1 = LV w f x ∧ ∀ j, j ≠ 70 → τ.2.1 j = a.1 j) := by
  obtain ⟨⟨l0, l1, n, hn, l3, l117, lx⟩, ⟨c0, c1, nc2, hnc2, c3, cE⟩, d3, hnc, n2, hn2, m117, hT⟩ := hL
  have e2 : n2 = n := (cn_inj (by omega) (by omega)).mp (m117.symm.trans l117)
  subst e2
  have e3 : nc2 = nc := (cn_inj (by omega) (by omega)).mp (c3.symm.trans d3)
  subst e3
  have e117 : (w 117).toNatClampNeg = n2 := by rw [l117, cn_nat (by omega)]
  unfold F_X3_tells F_X3_tells_L2
  refine pk_whl (fun v => ∃ r, r ≤ n2 ∧ v.1 = cn x ∧ v.2.1 = cn r ∧ (∀ j, j ≠ 70 → v.2.2.1 j = a.1 j) ∧ LVf w f x (n2 - r) r = LV w f x) ⟨0, Nat.zero_le _, rfl, rfl, fun _ _ => rfl, by unfold LV; rw [e117, Nat.sub_zero]⟩ (fun v hv => ?_)
  obtain ⟨x1, x2, u⟩ := v
  obtain ⟨r, hr, g1, g2, g3, g4⟩ := hv
  have g1 : x1 = cn x := g1
  have g2 : x2 = cn r := g2
  have g3 : ∀ j, j ≠ 70 → u.1 j = a.1 j := g3
  subst g1; subst g2
  unfold F_X3_tells_B2
  dsimp only
  rw [g3 6 (by decide), l3]
  by_cases hrn : n2 ≤ r
  · rw [if_pos ((cn_le (by omega) (by omega)).mpr hrn)]
    rw [show n2 - r = 0 by omega] at g4
    have g4 : LVd x (f 8) = LV w f x := g4
    by_cases h5 : x = 5
    · subst h5
      rw [if_pos (show cn 5 = ci 5 from rfl), show c8 7 = cn 7 by decide, V_cellJ sh69 (by decide) (by decide), b1_some, g3 69 (by decide), hf 7 (by decide)]
      have g5 : LVd 5 (f 8) = if f (7 + 1) = 0 then c16 900 else c8 100 := rfl
      by_cases h0 : f (7 + 1) = 0
      · rw [if_pos h0]
        rw [if_pos h0] at g5
        exact pk_some ⟨g5.symm.trans g4, g3⟩
      · rw [if_neg h0]
        rw [if_neg h0] at g5
        exact pk_some ⟨g5.symm.trans g4, g3⟩
    · rw [if_neg (fun q => h5 ((cn_inj (b := 5) (by omega) (by omega)).mp (q.trans (by decide))))]
      have eu : F_X11_cell 1000001 u (cn x) = some (m_unt.getD x 0) := by
        have h1 : mal 1000001 = some 5 := rfl
        have h4 : mia u 1000001 (cn x) = some (m_unt.getD x 0) := by
          unfold mia
          rw [show SH[1000001]? = none from List.getElem?_eq_none (by decide)]
          simp only [if_neg (cn_ix (n := 5) (by omega : x < 5) (by decide))]
          rw [cn_nat (by omega)]
          rfl
        unfold F_X11_cell
        rw [if_neg (cn_nn (by omega)), h1, b1_some, if_neg (fun q => absurd ((cn_le (a := 5) (by decide) (by omega)).mp q) (by omega)), h4, b1_some]
      rw [eu, b1_some]
      unfold LVd at g4
      rw [if_neg h5] at g4
      exact pk_some ⟨g4, g3⟩
  · rw [if_neg (fun q => hrn ((cn_le (by omega) (by omega)).mp q))]
    obtain ⟨y1, y2, y3, xw, hxw, y4, y5⟩ := lx r (by omega)
    have u1 : u.1 6 1 = cn 4 := by rw [g3 6 (by decide)]; exact l1
    have u3 : u.1 6 3 = cn n2 := by rw [g3 6 (by decide)]; exact l3
    have u7 : u.1 (6 + 1) = a.1 (6 + 1) := g3 7 (by decide)
    have al := al_7
    have lat : ∀ (s : mG) (c : Nat) (k : Int32), k = cn c → c < 4 → (∀ j, j ≠ 70 → s.1 j = a.1 j) → F_X10_at 6 s (cn r) k = some (a.1 (6 + 1) (r * 4 + c)) := fun s c k hk hc hs => by
      rw [V_at (t := 6) (s := s) (r := r) (c := c) (n := n2) (W := 4) rfl hk (by rw [hs 6 (by decide)]; exact l1) (by rw [hs 6 (by decide)]; exact l3) (by omega) hc (by rw [al]; omega) (by omega), hs (6 + 1) (by decide)]
    rw [lat u 2 (ci 2) rfl (by decide) g3, b1_some, lat u 3 (ci 3) rfl (by decide) g3, b1_some, lat u 0 (ci 0) rfl (by decide) g3, b1_some, y2, y3, y4]
    obtain ⟨p, q, c, hpq, hqc, hc, z1, z2, z3, z4, z5⟩ := hT r (by omega)
    have f1 : (w (985 + r)).toNatClampNeg = p := by rw [z1, cn_nat (by omega)]
    have f2 : (w (1001 + r)).toNatClampNeg = q := by rw [z2, cn_nat (by omega)]
    have f3 : (w (1017 + r)).toNatClampNeg = c := by rw [z3, cn_nat (by omega)]
    have step : LVf w f x (n2 - r) r = if w (1033 + r) = cn (20 + x) ∧ (w (1017 + r) = w (1001 + r) ∨ EVw w f q c = ci 1) then clL (EVw w f p q) else LVf w f x (n2 - (r + 1)) (r + 1) := by
      rw [show n2 - r = (n2 - (r + 1)) + 1 by omega]
      show (if _ then _ else _) = _
      rw [f1, f2, f3]
    have no : ∀ s : mG, (∀ j, j ≠ 70 → s.1 j = a.1 j) → ¬ (w (1033 + r) = cn (20 + x) ∧ (w (1017 + r) = w (1001 + r) ∨ EVw w f q c = ci 1)) → pk (F_X3_tells_115 (cn x) (cn r) s) (se (fun v => ∃ r, r ≤ n2 ∧ v.1 = cn x ∧ v.2.1 = cn r ∧ (∀ j, j ≠ 70 → v.2.2.1 j = a.1 j) ∧ LVf w f x (n2 - r) r = LV w f x) (fun τ => τ.1 = LV w f x ∧ ∀ j, j ≠ 70 → τ.2.1 j = a.1 j)) := fun s hs hn => by
      unfold F_X3_tells_115
      refine pk_some (show ∃ r, _ from ⟨r + 1, by omega, rfl, cnu (by omega), hs, ?_⟩)
      rw [← g4, step, if_neg hn]
    have yes : ∀ s : mG, (∀ j, j ≠ 70 → s.1 j = a.1 j) → (w (1033 + r) = cn (20 + x) ∧ (w (1017 + r) = w (1001 + r) ∨ EVw w f q c = ci 1)) → pk (F_X3_tells_87 (cn r) (cn q) s) (fun τ => τ.1 = LV w f x ∧ ∀ j, j ≠ 70 → τ.2.1 j = a.1 j) := fun s hs hy => by
      unfold F_X3_tells_87
      rw [lat s 1 (ci 1) rfl (by decide) hs, b1_some, y1, z1]
      refine pk_b2 (V_valC (z := a) (w := w) (f := f) hf c1 c3 hnc cE hs hpq (by omega) z4) (fun v t k => ?_)
      obtain ⟨k1, _, k3⟩ := k
      have k1 : v = EVw w f p q := k1
      refine pk_some ⟨?_, k3⟩
      rw [← g4, step, if_pos hy, ← k1]
      rfl
    unfold F_X3_tells_64
    by_cases hw : cn xw = cn x
    · have ew : xw = x := (cn_inj (by omega) (by omega)).mp hw
      subst ew
      rw [if_pos rfl, if_neg c1n0, z2, z3]
      by_cases hqc2 : q = c
      · subst hqc2
        rw [if_pos rfl]
        exact pk_b1r (yes u g3 ⟨y5, Or.inl (by rw [z2, z3])⟩)
      · rw [if_neg (fun e => hqc2 ((cn_inj (by omega) (by omega)).mp e))]
        refine pk_b2 (V_valC (z := a) (w := w) (f := f) hf c1 c3 hnc cE g3 hqc hc (z5.resolve_left hqc2)) (fun v t k => ?_)
        obtain ⟨k1, k2, k3⟩ := k
        have k1 : v = EVw w f q c := k1
        have k2 : PBz v := k2 rfl
        by_cases hv : v = 0
        · rw [if_pos hv]
          refine no t k3 (fun h => ?_)
          rcases h.2 with e | e
          · rw [z2, z3] at e
            exact hqc2 ((cn_inj (by omega) (by omega)).mp e).symm
          · rw [← k1, hv] at e
            exact absurd e (by decide)
        · rw [if_neg hv]
          refine pk_b1r (yes t k3 ⟨y5, Or.inr ?_⟩)
          rw [← k1]
          exact k2.resolve_left (fun e => hv (e.trans (by decide)))
    · rw [if_neg hw, if_pos c0e0]
      refine no u g3 (fun h => hw ?_)
      have e := (cn_inj (by omega) (by omega)).mp (y5.symm.trans h.1)
      rw [show xw = x by omega]
end
