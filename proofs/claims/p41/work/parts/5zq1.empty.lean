noncomputable section
/-! ALL GUESTS WEIGHED; an empty floor -/
theorem rel_sp {α β : Type} {u : α} {y : Option β} {Q : β → Prop} {R : α → β → Prop} (h : pk y Q) (k : ∀ v, Q v → R u v) : rel (some u) y R := fun _ e v e2 => Option.some.inj e ▸ k v (h v e2)
def sureN (w : Nat → Int32) (m g : Nat) : Int64 := sFold w (sStart w g) (glw w g) m
theorem sureN_r {b : mG} {m g : Nat} (hI : IM b) (hw : b.1 89 115 = cn m) (hm : m ≤ 6) : 0 ≤ (sureN (b.1 89) m g).toInt ∧ (sureN (b.1 89) m g).toInt ≤ 1000000 := by
  have st : ∀ k, k ≤ m → 0 ≤ (sFold (b.1 89) (sStart (b.1 89) g) (glw (b.1 89) g) k).toInt ∧ (sFold (b.1 89) (sStart (b.1 89) g) (glw (b.1 89) g) k).toInt ≤ 1000000 := by
    intro k
    induction k with
    | zero => intro _; exact Su_r sStart_u
    | succ k ih =>
      intro hk
      have i := ih (by omega)
      unfold sFold
      by_cases e : glw (b.1 89) g k = ci (-1)
      · rw [if_pos e]; exact i
      · rw [if_neg e]; exact byS_r hI hw hm (by omega) i
  exact st m (Nat.le_refl _)
theorem HK_low {w : Nat → Int32} {n nc : Nat} {a u : mG} (h : HK w n nc a) (e : ∀ j, 1 ≤ j → j ≤ 17 → u.1 j = a.1 j) : HK w n nc u := by
  obtain ⟨h1, h2, h3, h4, h5⟩ := h
  refine ⟨HSr1_row h1 (fun j q1 q2 => e j q1 q2) (fun _ _ => rfl), by rw [e 2 (by decide) (by decide)]; exact h2, h3, by rw [e 8 (by decide) (by decide)]; exact h4, h5⟩
theorem V_sureS {b s : mG} {n nc g m : Nat} (L : LTy nc (b.1 89)) (hn : n ≤ 12) (hg : g < n) (hw : b.1 89 115 = cn m) (hm : m ≤ 6) (e : s.1 89 = b.1 89) : pk (F_X12_sureOf (cn g) s) (fun τ => τ.1 = sureN (b.1 89) m g ∧ (∀ j, j ≠ 96 → j ≠ 97 → τ.2.1 j = s.1 j) ∧ τ.2.2 = s.2) := fun τ hτ => by
  have p := V_sureR (b := s) (n := n) (nc := nc) (g := g) (m := m) (by rw [e]; exact L) hn hg (by rw [e]; exact hw) hm τ hτ
  rw [e] at p
  exact ⟨p.1, p.2, G_X12_sureOf (z := s) (s := s) rfl τ hτ⟩
theorem V_weigh {a b : mG} {n nc m : Nat} (hI : IM b) (K : HK (b.1 89) n nc a) (h3 : a.1 10 3 = cn m) (hm : m ≤ 6) : pk (F_X0_weighAll a) (fun u => (∀ g, g < n → Su (u.1 76 g) (sureN (b.1 89) m g)) ∧ ∀ j, j ≠ 69 → j ≠ 70 → j ≠ 74 → j ≠ 76 → u.1 j = a.1 j) := by
  have hn := K.2.2.1
  unfold F_X0_weighAll F_X0_weighAll_L2
  refine pk_whl (fun v => ∃ k, k ≤ n ∧ v.1 = cn k ∧ (∀ g, g < k → Su (v.2.1 76 g) (sureN (b.1 89) m g)) ∧ ∀ j, j ≠ 69 → j ≠ 70 → j ≠ 74 → j ≠ 76 → v.2.1 j = a.1 j) ⟨0, Nat.zero_le _, rfl, fun g hg => absurd hg (by omega), fun _ _ _ _ _ => rfl⟩ (fun v hv => ?_)
  obtain ⟨x1, s⟩ := v
  obtain ⟨k, hk, q1o, q2o, ro⟩ := hv
  have q1 : x1 = cn k := q1o
  have q2 : ∀ g, g < k → Su (s.1 76 g) (sureN (b.1 89) m g) := q2o
  have r : ∀ j, j ≠ 69 → j ≠ 70 → j ≠ 74 → j ≠ 76 → s.1 j = a.1 j := ro
  have Ks : HK (b.1 89) n nc s := HK_low K (fun j h1 h2 => r j (by omega) (by omega) (by omega) (by omega))
  unfold F_X0_weighAll_B2
  dsimp only
  rw [q1, Ks.2.1]
  by_cases hkn : n ≤ k
  · rw [if_pos ((cn_le (by omega) (by omega)).mpr hkn)]
    exact pk_some (show (∀ g, g < n → Su (s.1 76 g) _) ∧ _ from ⟨fun g hg => q2 g (by omega), r⟩)
  rw [if_neg (fun q => hkn ((cn_le (by omega) (by omega)).mp q))]
  refine pk_b1 (V_glance Ks (by omega)) (fun u qu => ?_)
  obtain ⟨u1, u2⟩ := qu
  have Ku : HK (b.1 89) n nc u := HK_low Ks (fun j _ h2 => u2 j (by omega))
  have e10 : u.1 10 3 = cn m := by rw [u2 10 (by decide), r 10 (by decide) (by decide) (by decide) (by decide)]; exact h3
  refine pk_b2 (V_byGlance hI Ku (by omega : k < n) e10 hm u1) (fun v6 t qt => ?_)
  obtain ⟨t1o, t2o⟩ := qt
  have t1 : Su v6 (sureN (b.1 89) m k) := t1o
  have t2 : ∀ j, j ≠ 69 → j ≠ 70 → t.1 j = u.1 j := t2o
  rw [V_putJ sh76 (by omega) (by decide), b1_some]
  refine pk_some (show ∃ k', _ from ⟨k + 1, by omega, cnu (by omega), fun g hg => ?_, fun j h1 h2 h3 h4 => ?_⟩)
  · show Su (mu t.1 76 k v6 76 g) _
    by_cases e : g = k
    · subst e; rw [mu_same]; exact t1
    · rw [mu_cell (Or.inr e), t2 76 (by decide) (by decide), u2 76 (by decide)]
      exact q2 g (by omega)
  · show mu t.1 76 k v6 j = a.1 j
    exact (mu_row h4).trans ((t2 j h1 h2).trans ((u2 j h3).trans (r j h1 h2 h3 h4)))
theorem sh_i {Y Z : Int} (h1 : 0 ≤ Y) (h2 : Y ≤ 1000000) (k1 : 0 ≤ Z) (k2 : Z ≤ 1000000) : ∃ A : Int, Y * Z = A ∧ 0 ≤ A ∧ A ≤ 1000000000000 ∧ 0 ≤ A / 1000000 ∧ A / 1000000 ≤ Z := by
  have a0 : 0 ≤ Y * Z := Int.mul_nonneg h1 k1
  have a1 : Y * Z ≤ 1000000 * Z := Int.mul_le_mul_of_nonneg_right h2 k1
  generalize Y * Z = A at a0 a1
  exact ⟨A, rfl, a0, by omega, by omega, by omega⟩
theorem sh_r {y z : Int64} (h : 0 ≤ y.toInt ∧ y.toInt ≤ 1000000) (k : 0 ≤ z.toInt ∧ z.toInt ≤ 1000000) : 0 ≤ ((y * z) / cl 1000000).toInt ∧ ((y * z) / cl 1000000).toInt ≤ z.toInt := by
  obtain ⟨A, hA, a0, a1, d0, d1⟩ := sh_i h.1 h.2 k.1 k.2
  have c1 : -9223372036854775808 ≤ y.toInt * z.toInt := by rw [hA]; exact Int.le_trans (by decide) a0
  have c2 : y.toInt * z.toInt < 9223372036854775808 := by rw [hA]; exact Int.lt_of_le_of_lt a1 (by decide)
  have c : (y * z).toInt = A := (l_mul rfl rfl c1 c2).trans hA
  have d : ((y * z) / cl 1000000).toInt = A / 1000000 := l_div c (by decide : (cl 1000000).toInt = 1000000) a0 (by decide) (Int.lt_of_le_of_lt a1 (by decide))
  rw [d]
  exact ⟨d0, d1⟩
theorem sh_u {y z : Int64} (h : 0 ≤ y.toInt ∧ y.toInt ≤ 1000000) (k : 0 ≤ z.toInt ∧ z.toInt ≤ 1000000) : 0 ≤ ((y * z) / cl 1000000).toInt ∧ ((y * z) / cl 1000000).toInt ≤ 1000000 := ⟨(sh_r h k).1, Int.le_trans (sh_r h k).2 k.2⟩
theorem Su_share {s : mG} {x y : Int32} {u v : Int64} (h : Su x u) (k : Su y v) : pk (F_X11_share s x y) (fun z => Su z ((u * v) / cl 1000000)) := by
  unfold F_X11_share
  rw [← h.1, ← k.1]
  exact pk_some (Su_of (sh_u (Su_r h) (Su_r k)))
theorem Su_co {x : Int32} {u : Int64} (h : Su x u) : Su (ci 1000000 - x) (cl 1000000 - u) := by
  have e : (ci 1000000 - x).toInt = 1000000 - x.toInt := r_sub (by decide : (ci 1000000).toInt = 1000000) rfl (by have := h.2; omega) (by have := h.2; omega)
  have hh := h.2
  refine ⟨by rw [x64_sub h.2, ← h.1], ?_⟩
  rw [e]
  clear e
  exact ⟨by omega, by omega⟩
theorem co_r {u : Int64} (h : 0 ≤ u.toInt ∧ u.toInt ≤ 1000000) : 0 ≤ (cl 1000000 - u).toInt ∧ (cl 1000000 - u).toInt ≤ 1000000 := by
  have e : (cl 1000000 - u).toInt = 1000000 - u.toInt := l_sub (by decide : (cl 1000000).toInt = 1000000) rfl (by omega) (by omega)
  rw [e]
  clear e
  exact ⟨by omega, by omega⟩
/-- none is on the floor -/
def eFold (w : Nat → Int32) (m : Nat) (x : Int32) : Nat → Int64
  | 0 => cl 1000000
  | k + 1 => if w (119 + k) = x then (eFold w m x k * (cl 1000000 - sureN w m k)) / cl 1000000 else eFold w m x k
theorem eFold_0 {w : Nat → Int32} {m : Nat} {x : Int32} : Su (ci 1000000) (eFold w m x 0) := (show _ ∧ _ ∧ _ from ⟨(show cl 1000000 = (ci 1000000).toInt64 by decide), by decide, by decide⟩)
theorem eFold_s {w : Nat → Int32} {m k : Nat} {x : Int32} : eFold w m x (k + 1) = if w (119 + k) = x then (eFold w m x k * (cl 1000000 - sureN w m k)) / cl 1000000 else eFold w m x k := rfl
theorem V_emptyC {a b : mG} {n nc m : Nat} {x : Int32} (hI : IM b) (K : HK (b.1 89) n nc a) (h3 : a.1 10 3 = cn m) (hm : m ≤ 6) : pk (F_X0_emptyChance x a) (fun τ => Su τ.1 (eFold (b.1 89) m x n)) := by
  have hn := K.2.2.1
  unfold F_X0_emptyChance
  refine pk_b1 (V_weigh hI K h3 hm) (fun u qu => ?_)
  obtain ⟨u1, u2⟩ := qu
  have Ku : HK (b.1 89) n nc u := HK_low K (fun j h1 h2 => u2 j (by omega) (by omega) (by omega) (by omega))
  unfold F_X0_emptyChance_L9
  refine pk_whl (fun v => v.1 = x ∧ ∃ k, k ≤ n ∧ v.2.2.1 = cn k ∧ Su v.2.1 (eFold (b.1 89) m x k) ∧ v.2.2.2 = u) ⟨rfl, 0, Nat.zero_le _, rfl, eFold_0, rfl⟩ (fun v hv => ?_)
  obtain ⟨x1, x2, x3, s⟩ := v
  obtain ⟨q0o, k, hk, q1o, q2o, q3o⟩ := hv
  have q0 : x1 = x := q0o
  have q1 : x3 = cn k := q1o
  have q2 : Su x2 (eFold (b.1 89) m x k) := q2o
  have q3 : s = u := q3o
  unfold F_X0_emptyChance_B9 F_X0_emptyChance_55
  dsimp only
  rw [q0, q1, q3, Ku.2.1]
  by_cases hkn : n ≤ k
  · have ek : k = n := by omega
    rw [if_pos ((cn_le (by omega) (by omega)).mpr hkn)]
    rw [ek] at q2
    exact pk_some (show Su x2 _ from q2)
  rw [if_neg (fun q => hkn ((cn_le (by omega) (by omega)).mp q)), V_atG (c := 0) (k := ci 0) Ku.1.1 Ku.2.1 hn (by omega) (by decide) rfl, b1_some, show ixG k 0 = 119 + k from rfl]
  by_cases hx : b.1 89 (119 + k) = x
  · rw [if_pos hx, V_cellJ sh76 (by omega) (by decide), b1_some]
    refine pk_b1 (Su_share q2 (Su_co (u1 k (by omega)))) (fun z hz => ?_)
    exact pk_some (show _ ∧ ∃ k', _ from ⟨rfl, k + 1, by omega, cnu (by omega), by rw [eFold_s, if_pos hx]; exact hz, rfl⟩)
  · rw [if_neg hx]
    exact pk_some (show _ ∧ ∃ k', _ from ⟨rfl, k + 1, by omega, cnu (by omega), by rw [eFold_s, if_neg hx]; exact q2, rfl⟩)
theorem V_emptyR {b : mG} {n nc m : Nat} {x : Int32} (L : LTy nc (b.1 89)) (g2 : b.1 89 112 = cn n) (hn : n ≤ 12) (hw : b.1 89 115 = cn m) (hm : m ≤ 6) : pk (F_X12_empty_L18 x (cl 1000000) (ci 0) b) (fun τ => τ.1 = (eFold (b.1 89) m x n).toInt32) := by
  unfold F_X12_empty_L18
  refine pk_whl (fun v => v.1 = x ∧ ∃ k, k ≤ n ∧ v.2.2.1 = cn k ∧ v.2.1 = eFold (b.1 89) m x k ∧ ∀ j, j ≠ 96 → j ≠ 97 → v.2.2.2.1 j = b.1 j) ⟨rfl, 0, Nat.zero_le _, rfl, rfl, fun _ _ _ => rfl⟩ (fun v hv => ?_)
  obtain ⟨x1, x2, x4, s⟩ := v
  obtain ⟨q0o, k, hk, q1o, q2o, ro⟩ := hv
  have q0 : x1 = x := q0o
  have q1 : x4 = cn k := q1o
  have q2 : x2 = eFold (b.1 89) m x k := q2o
  have r : ∀ j, j ≠ 96 → j ≠ 97 → s.1 j = b.1 j := ro
  have e89 : s.1 89 = b.1 89 := r 89 (by decide) (by decide)
  unfold F_X12_empty_B18 F_X12_empty_64
  dsimp only
  rw [q0, q1, q2, e89, g2]
  by_cases hkn : n ≤ k
  · have ek : k = n := by omega
    rw [if_pos ((cn_le (by omega) (by omega)).mpr hkn)]
    exact pk_some (show (eFold (b.1 89) m x k).toInt32 = (eFold (b.1 89) m x n).toInt32 from by rw [ek])
  rw [if_neg (fun q => hkn ((cn_le (by omega) (by omega)).mp q)), show c8 119 + cn k = cn (119 + k) from cn_add (a := 119) (by omega), cn_nat (n := 119 + k) (by omega)]
  refine pk_nn ?_
  by_cases hx : b.1 89 (119 + k) = x
  · rw [if_pos hx]
    refine pk_b2 (V_sureS L hn (by omega : k < n) hw hm e89) (fun v9 s8 qt => ?_)
    obtain ⟨t1o, t2o, _⟩ := qt
    have t1 : v9 = sureN (b.1 89) m k := t1o
    have t2 : ∀ j, j ≠ 96 → j ≠ 97 → s8.1 j = s.1 j := t2o
    rw [t1]
    exact pk_some (show _ ∧ ∃ k', _ from ⟨rfl, k + 1, by omega, cnu (by omega), by rw [eFold_s, if_pos hx], fun j h1 h2 => (t2 j h1 h2).trans (r j h1 h2)⟩)
  · rw [if_neg hx]
    exact pk_some (show _ ∧ ∃ k', _ from ⟨rfl, k + 1, by omega, cnu (by omega), by rw [eFold_s, if_neg hx], r⟩)
theorem R_empty {a b : mG} {x : Int32} (hI : IM b) (h : SIM a b) : rel (F_X11_empty x a) (F_X12_empty x b) (fun τ υ => τ.1 = υ.1) := by
  obtain ⟨n, nc, m, K, g2, V, hm, h3, hw⟩ := SIM_S h
  unfold F_X11_empty F_X12_empty
  rw [V_within, F_isIn, b1_some, b1_some]
  refine rel_ifs Iff.rfl (fun _ => rel_some rfl) (fun hx => ?_)
  refine rel_l2 (V_emptyC hI K h3 hm) (fun v6 s5 qo => ?_)
  have q : Su v6 (eFold (b.1 89) m x n) := qo
  exact rel_sp (V_emptyR K.2.2.2.2 g2 K.2.2.1 hw hm) (fun v qv => show v6 = v.1 from by rw [qv]; exact (Su_32 q).symm)
end
