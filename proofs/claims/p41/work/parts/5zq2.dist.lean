noncomputable section
/-! HOW MANY ARE IN: the chances, on both sides -/
def dN (w : Nat → Int32) (m sk : Nat) : Nat → Nat → Int64
  | 0, i => if i = 0 then cl 1000000 else cz 0
  | k + 1, i => if k = sk then dN w m sk k i else (dN w m sk k i * (cl 1000000 - sureN w m k)) / cl 1000000 + (if i = 0 then cz 0 else (dN w m sk k (i - 1) * sureN w m k) / cl 1000000)
theorem dN_0 {w : Nat → Int32} {m sk i : Nat} : dN w m sk 0 i = if i = 0 then cl 1000000 else cz 0 := rfl
theorem dN_s {w : Nat → Int32} {m sk k i : Nat} (h : k ≠ sk) : dN w m sk (k + 1) i = (dN w m sk k i * (cl 1000000 - sureN w m k)) / cl 1000000 + (if i = 0 then cz 0 else (dN w m sk k (i - 1) * sureN w m k) / cl 1000000) := if_neg h
theorem dN_k {w : Nat → Int32} {m sk k i : Nat} (h : k = sk) : dN w m sk (k + 1) i = dN w m sk k i := if_pos h
theorem mil_r : 0 ≤ (cl 1000000).toInt ∧ (cl 1000000).toInt ≤ 1000000 := by decide
theorem cz_r : 0 ≤ (cz 0).toInt ∧ (cz 0).toInt ≤ 1000000 := by decide
theorem add_r {y z : Int64} {Z : Int} (h0 : 0 ≤ Z) (hz : Z ≤ 1000000) (h : 0 ≤ y.toInt ∧ y.toInt ≤ 1000000 - Z) (k : 0 ≤ z.toInt ∧ z.toInt ≤ Z) : 0 ≤ (y + z).toInt ∧ (y + z).toInt ≤ 1000000 := by
  have e : (y + z).toInt = y.toInt + z.toInt := l_add rfl rfl (by omega) (by omega)
  rw [e]
  clear e
  exact ⟨by omega, by omega⟩
/-- one step of the chances -/
theorem st_r {p q z : Int64} (hp : 0 ≤ p.toInt ∧ p.toInt ≤ 1000000) (hq : 0 ≤ q.toInt ∧ q.toInt ≤ 1000000) (hz : 0 ≤ z.toInt ∧ z.toInt ≤ 1000000) : 0 ≤ ((p * (cl 1000000 - z)) / cl 1000000 + (q * z) / cl 1000000).toInt ∧ ((p * (cl 1000000 - z)) / cl 1000000 + (q * z) / cl 1000000).toInt ≤ 1000000 := by
  have e : (cl 1000000 - z).toInt = 1000000 - z.toInt := l_sub (by decide : (cl 1000000).toInt = 1000000) rfl (by omega) (by omega)
  have r1 := sh_r hp (co_r hz)
  have r2 := sh_r hq hz
  rw [e] at r1
  exact add_r hz.1 hz.2 r1 r2
theorem st_0 {p z : Int64} (hp : 0 ≤ p.toInt ∧ p.toInt ≤ 1000000) (hz : 0 ≤ z.toInt ∧ z.toInt ≤ 1000000) : 0 ≤ ((p * (cl 1000000 - z)) / cl 1000000 + cz 0).toInt ∧ ((p * (cl 1000000 - z)) / cl 1000000 + cz 0).toInt ≤ 1000000 := by
  have e : (cl 1000000 - z).toInt = 1000000 - z.toInt := l_sub (by decide : (cl 1000000).toInt = 1000000) rfl (by omega) (by omega)
  have r1 := sh_r hp (co_r hz)
  rw [e] at r1
  exact add_r hz.1 hz.2 r1 ⟨by decide, by rw [show (cz 0).toInt = 0 by decide]; exact hz.1⟩
theorem dN_r {b : mG} {m sk : Nat} (hI : IM b) (hw : b.1 89 115 = cn m) (hm : m ≤ 6) : ∀ k i, 0 ≤ (dN (b.1 89) m sk k i).toInt ∧ (dN (b.1 89) m sk k i).toInt ≤ 1000000 := by
  intro k
  induction k with
  | zero =>
    intro i
    rw [dN_0]
    by_cases e : i = 0
    · rw [if_pos e]; exact mil_r
    · rw [if_neg e]; exact cz_r
  | succ k ih =>
    intro i
    by_cases e : k = sk
    · rw [dN_k e]; exact ih i
    · rw [dN_s e]
      by_cases e0 : i = 0
      · rw [if_pos e0]; exact st_0 (ih i) (sureN_r hI hw hm)
      · rw [if_neg e0]; exact st_r (ih i) (ih (i - 1)) (sureN_r hI hw hm)
theorem Su_add {x y : Int32} {u v : Int64} (h : Su x u) (k : Su y v) (r : 0 ≤ (u + v).toInt ∧ (u + v).toInt ≤ 1000000) : Su (x + y) (u + v) := by
  have h1 := h.2
  have k1 := k.2
  have c1 : -2147483648 ≤ x.toInt + y.toInt ∧ x.toInt + y.toInt < 2147483648 := ⟨by omega, by omega⟩
  have c2 : -9223372036854775808 ≤ x.toInt + y.toInt ∧ x.toInt + y.toInt < 9223372036854775808 := ⟨by omega, by omega⟩
  have e : (x + y).toInt = x.toInt + y.toInt := r_add rfl rfl c1.1 c1.2
  have f : (u + v).toInt = x.toInt + y.toInt := l_add (Su_t h) (Su_t k) c2.1 c2.2
  rw [f] at r
  refine (show _ ∧ _ ∧ _ from ⟨Int64.toInt_inj.mp (f.trans ((Int32.toInt_toInt64 _).trans e).symm), ?_, ?_⟩)
  · rw [e]; exact r.1
  · rw [e]; exact r.2
theorem cn_ne0 {k : Nat} (h : k < 2147483648) (h0 : k ≠ 0) : ¬ cn k = 0 := fun q => h0 ((cn_inj h (by decide)).mp (q.trans (by decide : (0 : Int32) = cn 0)))
theorem cn_ne1 {k : Nat} (h : k < 2147483648) : ¬ cn k = ci (-1) := fun q => by
  have e := congrArg Int32.toInt q
  rw [t_cn h, show (ci (-1)).toInt = -1 by decide] at e
  omega
theorem Su_z : Su (ci 0) (cz 0) := (show _ ∧ _ ∧ _ from ⟨by decide, by decide, by decide⟩)
theorem Su_m : Su (ci 1000000) (cl 1000000) := (show _ ∧ _ ∧ _ from ⟨by decide, by decide, by decide⟩)
theorem sh_z {z : Int64} (hz : 0 ≤ z.toInt ∧ z.toInt ≤ 1000000) : (cz 0 * z) / cl 1000000 = cz 0 := by
  have r := sh_r cz_r hz
  have c : (cz 0 * z).toInt = 0 := by
    have e : (cz 0).toInt * z.toInt = 0 := by rw [show (cz 0).toInt = 0 by decide, Int.zero_mul]
    rw [← e]
    exact l_mul rfl rfl (by rw [e]; decide) (by rw [e]; decide)
  refine Int64.toInt_inj.mp ?_
  rw [l_div c (by decide : (cl 1000000).toInt = 1000000) (by decide) (by decide) (by decide)]
  decide
/-- a cell below the row -/
theorem V_cell_neg {j : Nat} {s : mG} {x : Int32} (h : x < 0) : F_X11_cell j s x = some (ci 0) := by
  unfold F_X11_cell F_X11_cell_20
  rw [if_pos h]
/-- the class takes one guest in -/
theorem V_oneC {s : mG} {z : Int32} {b : mG} {m sk k : Nat} (hI : IM b) (hw : b.1 89 115 = cn m) (hm : m ≤ 6) (hs : k ≠ sk) (hz : Su z (sureN (b.1 89) m k)) (h : ∀ i, i < 13 → Su (s.1 75 i) (dN (b.1 89) m sk k i)) : pk (F_X0_countChance z s) (fun u => (∀ i, i < 13 → Su (u.1 75 i) (dN (b.1 89) m sk (k + 1) i)) ∧ ∀ j, j ≠ 75 → u.1 j = s.1 j) := by
  unfold F_X0_countChance F_X0_countChance_L8
  rw [show cn 13 - ci 1 = ci 13 + ci (-1) by decide]
  refine pk_whl (fun v => v.1 = z ∧ ∃ p, p ≤ 13 ∧ v.2.1 = cn p + ci (-1) ∧ (∀ i, i < 13 → Su (v.2.2.1 75 i) (dN (b.1 89) m sk (if p ≤ i then k + 1 else k) i)) ∧ ∀ j, j ≠ 75 → v.2.2.1 j = s.1 j) ⟨rfl, 13, by omega, rfl, fun i hi => by rw [if_neg (by omega)]; exact h i hi, fun _ _ => rfl⟩ (fun v hv => ?_)
  obtain ⟨x1, x2, t⟩ := v
  obtain ⟨q0o, p, hp, q1o, q2o, ro⟩ := hv
  have q0 : x1 = z := q0o
  have q1 : x2 = cn p + ci (-1) := q1o
  have q2 : ∀ i, i < 13 → Su (t.1 75 i) (dN (b.1 89) m sk (if p ≤ i then k + 1 else k) i) := q2o
  have r : ∀ j, j ≠ 75 → t.1 j = s.1 j := ro
  unfold F_X0_countChance_B8
  dsimp only
  rw [q0, q1]
  by_cases hp0 : p = 0
  · subst hp0
    rw [if_pos (show cn 0 + ci (-1) < 0 by decide)]
    exact pk_some (show (∀ i, i < 13 → Su (t.1 75 i) _) ∧ _ from ⟨fun i hi => by have := q2 i hi; rw [if_pos (Nat.zero_le i)] at this; exact this, r⟩)
  obtain ⟨d, rfl⟩ : ∃ d, p = d + 1 := ⟨p - 1, by omega⟩
  have e1 : cn (d + 1) + ci (-1) = cn d := by rw [← cnu (by omega), Int32.add_assoc]; exact (congrArg (cn d + ·) (by decide : ci 1 + ci (-1) = 0)).trans (Int32.add_zero _)
  have S1 := q2 d (by omega)
  rw [if_neg (by omega)] at S1
  rw [e1, if_neg (cn_nn (by omega)), V_cellJ (j := 75) (k := d) sh75 (by omega) (by decide)]
  have fin : ∀ v3 : Int32, Su v3 (if d = 0 then cz 0 else dN (b.1 89) m sk k (d - 1)) → pk (b1 (F_X11_share t v3 z) fun v5 => b1 (some (t.1 75 d)) fun v7 => b1 (F_X11_share t v7 (ci 1000000 - z)) fun v9 => b1 (F_X11_put 75 (cn d) (v9 + v5) t) fun s11 => some (Sum.inl (z, cn d + ci (-1), s11))) (se (fun v : Int32 × Int32 × mG => v.1 = z ∧ ∃ p, p ≤ 13 ∧ v.2.1 = cn p + ci (-1) ∧ (∀ i, i < 13 → Su (v.2.2.1 75 i) (dN (b.1 89) m sk (if p ≤ i then k + 1 else k) i)) ∧ ∀ j, j ≠ 75 → v.2.2.1 j = s.1 j) (fun u : mG => (∀ i, i < 13 → Su (u.1 75 i) (dN (b.1 89) m sk (k + 1) i)) ∧ ∀ j, j ≠ 75 → u.1 j = s.1 j)) := fun v3 h3 => by
    refine pk_b1 (Su_share h3 hz) (fun v5 h5 => ?_)
    rw [b1_some]
    refine pk_b1 (Su_share S1 (Su_co hz)) (fun v9 h9 => ?_)
    rw [V_putJ sh75 (by omega) (by decide), b1_some]
    have sm : Su (v9 + v5) (dN (b.1 89) m sk (k + 1) d) := by
      have rr := dN_r (sk := sk) hI hw hm (k + 1) d
      rw [dN_s hs] at rr ⊢
      by_cases e0 : d = 0
      · rw [if_pos e0] at rr h5 ⊢
        rw [sh_z (sureN_r hI hw hm)] at h5
        exact Su_add h9 h5 rr
      · rw [if_neg e0] at rr h5 ⊢
        exact Su_add h9 h5 rr
    refine pk_some (show _ ∧ ∃ p', _ from ⟨rfl, d, by omega, rfl, fun i hi => ?_, fun j hj => ?_⟩)
    · show Su (mu t.1 75 d (v9 + v5) 75 i) _
      by_cases e : i = d
      · rw [e, mu_same, if_pos (Nat.le_refl d)]; exact sm
      · rw [mu_cell (Or.inr e)]
        have := q2 i hi
        by_cases f : d + 1 ≤ i
        · rw [if_pos f] at this
          rw [if_pos (by omega)]; exact this
        · rw [if_neg f] at this
          rw [if_neg (by omega)]; exact this
    · show mu t.1 75 d (v9 + v5) j = s.1 j
      exact (mu_row hj).trans (r j hj)
  by_cases d0 : d = 0
  · rw [V_cell_neg (show cn d - ci 1 < 0 by rw [d0]; decide), b1_some]
    exact fin (ci 0) (by rw [if_pos d0]; exact Su_z)
  · rw [show cn d - ci 1 = cn (d - 1) from cn_sub (b := 1) (by omega) (by omega), V_cellJ (j := 75) (k := d - 1) sh75 (by omega) (by decide), b1_some]
    refine fin _ ?_
    rw [if_neg d0]
    have := q2 (d - 1) (by omega)
    rw [if_neg (by omega)] at this
    exact this
end
