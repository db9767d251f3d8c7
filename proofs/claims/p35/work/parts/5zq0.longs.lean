/-! 5zq0.longs -/
section
noncomputable section
/-! ALL LONGS ARE KEPT -/
def KG (z s : mG) : Prop := s.2 = z.2
theorem KG_mu {z s : mG} {D : Nat → Nat → Int32} (h : KG z s) : KG z (D, s.2) := h
theorem G_X12_comesTo_180 {z : mG} {x1 : Int32} {x3 : Int32} {x4 : Int32} {x5 : Int32} {s : mG} (h : KG z s) : pk (F_X12_comesTo_180 x1 x3 x4 x5 s) (se (fun τ => KG z τ.2.2.2.2) (fun τ => KG z τ.2)) := by
  unfold F_X12_comesTo_180
  exact pk_some h
theorem G_X12_comesTo_86 {z : mG} {x1 : Int32} {x3 : Int32} {x4 : Int32} {x5 : Int32} {y1 : Int32} {y2 : Int32} {s : mG} (h : KG z s) : pk (F_X12_comesTo_86 x1 x3 x4 x5 y1 y2 s) (se (fun τ => KG z τ.2.2.2.2) (fun τ => KG z τ.2)) := by
  unfold F_X12_comesTo_86
  refine pk_nn ?_
  extract_lets +onlyGivenNames s_1
  have h_2 : KG z s_1 := KG_mu h
  clear_value s_1
  exact (G_X12_comesTo_180 h_2)
theorem G_X12_comesTo_B6 {z : mG} {x1 : Int32} {x3 : Int32} {x4 : Int32} {x5 : Int32} {s : mG} (h : KG z s) : pk (F_X12_comesTo_B6 x1 x3 x4 x5 s) (se (fun τ => KG z τ.2.2.2.2) (fun τ => KG z τ.2)) := by
  unfold F_X12_comesTo_B6
  refine pk_ite ?_ ?_
  · exact pk_some h
  · refine pk_nn ?_
    extract_lets +onlyGivenNames v_1
    clear_value v_1
    refine pk_nn ?_
    extract_lets +onlyGivenNames v_2
    clear_value v_2
    refine pk_ite ?_ ?_
    · refine pk_ite ?_ ?_
      · refine pk_nn ?_
        refine pk_nn ?_
        refine pk_nn ?_
        extract_lets +onlyGivenNames s_3
        have h_4 : KG z s_3 := KG_mu h
        clear_value s_3
        exact (G_X12_comesTo_180 h_4)
      · refine pk_ite ?_ ?_
        · refine pk_nn ?_
          refine pk_nn ?_
          extract_lets +onlyGivenNames s_5
          have h_6 : KG z s_5 := KG_mu h
          clear_value s_5
          exact (G_X12_comesTo_180 h_6)
        · refine pk_nn ?_
          refine pk_nn ?_
          refine pk_b1 pk_top (fun _ _ => ?_)
          refine pk_nn ?_
          extract_lets +onlyGivenNames s_7
          have h_8 : KG z s_7 := KG_mu h
          clear_value s_7
          exact (G_X12_comesTo_180 h_8)
    · refine pk_ite ?_ ?_
      · exact (G_X12_comesTo_86 h)
      · refine pk_nn ?_
        exact (G_X12_comesTo_86 h)
theorem G_X12_comesTo_L6 {z : mG} {x1 : Int32} {x3 : Int32} {x4 : Int32} {x5 : Int32} {s : mG} (h : KG z s) : pk (F_X12_comesTo_L6 x1 x3 x4 x5 s) (fun τ => KG z τ.2) := by
  unfold F_X12_comesTo_L6
  refine pk_whl (fun v => KG z v.2.2.2.2) h (fun v hv => ?_)
  obtain ⟨y0, y1, y2, y3, y4⟩ := v
  exact G_X12_comesTo_B6 hv
theorem G_X12_comesTo {z : mG} {a1 : Int32} {a2 : Int32} {a3 : Int32} {s : mG} (h : KG z s) : pk (F_X12_comesTo a1 a2 a3 s) (fun τ => KG z τ.2) := by
  unfold F_X12_comesTo
  exact (G_X12_comesTo_L6 h)
theorem G_X12_isSo_52 {z : mG} {s : mG} (h : KG z s) : pk (F_X12_isSo_52 s) (fun τ => KG z τ.2) := by
  unfold F_X12_isSo_52
  exact pk_some h
theorem G_X12_isSo {z : mG} {a1 : Int32} {s : mG} (h : KG z s) : pk (F_X12_isSo a1 s) (fun τ => KG z τ.2) := by
  unfold F_X12_isSo
  refine pk_nn ?_
  refine pk_nn ?_
  refine pk_ite ?_ ?_
  · exact (G_X12_isSo_52 h)
  · refine pk_nn ?_
    refine pk_nn ?_
    refine pk_b2 (G_X12_comesTo h) (fun _ s_1 (h_2 : KG z s_1) => ?_)
    refine pk_ite ?_ ?_
    · exact (G_X12_isSo_52 h_2)
    · exact pk_some h_2
theorem G_X12_saysIn_187 {z : mG} {x1 : Int32} {x2 : Int32} {x6 : Int32} {s : mG} (h : KG z s) : pk (F_X12_saysIn_187 x1 x2 x6 s) (se (fun τ => KG z τ.2.2.2) (fun τ => KG z τ.2)) := by
  unfold F_X12_saysIn_187
  exact pk_some h
theorem G_X12_saysIn_B113 {z : mG} {x1 : Int32} {x2 : Int32} {x6 : Int32} {s : mG} (h : KG z s) : pk (F_X12_saysIn_B113 x1 x2 x6 s) (se (fun τ => KG z τ.2.2.2) (fun τ => KG z τ.2)) := by
  unfold F_X12_saysIn_B113
  refine pk_ite ?_ ?_
  · refine pk_b1 pk_top (fun _ _ => ?_)
    exact pk_some h
  · refine pk_nn ?_
    refine pk_ite ?_ ?_
    · refine pk_b2 (G_X12_isSo h) (fun _ s_1 (h_2 : KG z s_1) => ?_)
      refine pk_ite ?_ ?_
      · exact (G_X12_saysIn_187 h_2)
      · refine pk_nn ?_
        refine pk_nn ?_
        refine pk_b2 (G_X12_comesTo h_2) (fun _ s_3 (h_4 : KG z s_3) => ?_)
        refine pk_b1 pk_top (fun _ _ => ?_)
        refine pk_b1 pk_top (fun _ _ => ?_)
        exact pk_some h_4
    · exact (G_X12_saysIn_187 h)
theorem G_X12_saysIn_L113 {z : mG} {x1 : Int32} {x2 : Int32} {x6 : Int32} {s : mG} (h : KG z s) : pk (F_X12_saysIn_L113 x1 x2 x6 s) (fun τ => KG z τ.2) := by
  unfold F_X12_saysIn_L113
  refine pk_whl (fun v => KG z v.2.2.2) h (fun v hv => ?_)
  obtain ⟨y0, y1, y2, y3⟩ := v
  exact G_X12_saysIn_B113 hv
theorem G_X12_saysIn_100 {z : mG} {x1 : Int32} {x2 : Int32} {x5 : Int32} {y1 : Int32} {y2 : Int32} {s : mG} (h : KG z s) : pk (F_X12_saysIn_100 x1 x2 x5 y1 y2 s) (fun τ => KG z τ.2) := by
  unfold F_X12_saysIn_100
  refine pk_nn ?_
  extract_lets +onlyGivenNames s_1
  have h_2 : KG z s_1 := KG_mu h
  clear_value s_1
  extract_lets +onlyGivenNames s_3
  have h_4 : KG z s_3 := KG_mu h_2
  clear_value s_3
  exact (G_X12_saysIn_L113 h_4)
theorem G_X12_saysIn {z : mG} {a1 : Int32} {a2 : Int32} {a3 : Int32} {a4 : Int32} {a5 : Int32} {s : mG} (h : KG z s) : pk (F_X12_saysIn a1 a2 a3 a4 a5 s) (fun τ => KG z τ.2) := by
  unfold F_X12_saysIn
  extract_lets +onlyGivenNames s_1
  have h_2 : KG z s_1 := KG_mu h
  clear_value s_1
  refine pk_nn ?_
  extract_lets +onlyGivenNames s_3
  have h_4 : KG z s_3 := KG_mu h_2
  clear_value s_3
  refine pk_nn ?_
  extract_lets +onlyGivenNames s_5
  have h_6 : KG z s_5 := KG_mu h_4
  clear_value s_5
  extract_lets +onlyGivenNames s_7
  have h_8 : KG z s_7 := KG_mu h_6
  clear_value s_7
  extract_lets +onlyGivenNames s_9
  have h_10 : KG z s_9 := KG_mu h_8
  clear_value s_9
  extract_lets +onlyGivenNames s_11
  have h_12 : KG z s_11 := KG_mu h_10
  clear_value s_11
  extract_lets +onlyGivenNames s_13
  have h_14 : KG z s_13 := KG_mu h_12
  clear_value s_13
  refine pk_b1 pk_top (fun _ _ => ?_)
  refine pk_ite ?_ ?_
  · exact (G_X12_saysIn_100 h_14)
  · exact (G_X12_saysIn_100 h_14)
theorem G_X12_saysNow {z : mG} {a1 : Int32} {a2 : Int32} {s : mG} (h : KG z s) : pk (F_X12_saysNow a1 a2 s) (fun τ => KG z τ.2) := by
  unfold F_X12_saysNow
  refine pk_nn ?_
  refine pk_b2 (G_X12_saysIn h) (fun _ s_1 (h_2 : KG z s_1) => ?_)
  exact pk_some h_2
theorem G_X12_sureOf_70 {z : mG} {x1 : Int32} {x2 : Int64} {x4 : Int32} {s : mG} (h : KG z s) : pk (F_X12_sureOf_70 x1 x2 x4 s) (se (fun τ => KG z τ.2.2.2) (fun τ => KG z τ.2)) := by
  unfold F_X12_sureOf_70
  exact pk_some h
theorem G_X12_sureOf_B16 {z : mG} {x1 : Int32} {x2 : Int64} {x4 : Int32} {s : mG} (h : KG z s) : pk (F_X12_sureOf_B16 x1 x2 x4 s) (se (fun τ => KG z τ.2.2.2) (fun τ => KG z τ.2)) := by
  unfold F_X12_sureOf_B16
  refine pk_ite ?_ ?_
  · exact pk_some h
  · refine pk_nn ?_
    refine pk_ite ?_ ?_
    · exact (G_X12_sureOf_70 h)
    · refine pk_nn ?_
      refine pk_b1 pk_top (fun _ _ => ?_)
      exact (G_X12_sureOf_70 h)
theorem G_X12_sureOf_L16 {z : mG} {x1 : Int32} {x2 : Int64} {x4 : Int32} {s : mG} (h : KG z s) : pk (F_X12_sureOf_L16 x1 x2 x4 s) (fun τ => KG z τ.2) := by
  unfold F_X12_sureOf_L16
  refine pk_whl (fun v => KG z v.2.2.2) h (fun v hv => ?_)
  obtain ⟨y0, y1, y2, y3⟩ := v
  exact G_X12_sureOf_B16 hv
theorem G_X12_sureOf {z : mG} {a1 : Int32} {s : mG} (h : KG z s) : pk (F_X12_sureOf a1 s) (fun τ => KG z τ.2) := by
  unfold F_X12_sureOf
  refine pk_b2 (G_X12_saysNow h) (fun _ s_1 (h_2 : KG z s_1) => ?_)
  extract_lets +onlyGivenNames v_3
  clear_value v_3
  exact (G_X12_sureOf_L16 h_2)
theorem G_X12_say_22 {z : mG} {s : mG} (h : KG z s) : pk (F_X12_say_22 s) (fun τ => KG z τ.2) := by
  unfold F_X12_say_22
  exact pk_some h
theorem G_X12_say {z : mG} {a1 : Int32} {a2 : Int32} {a3 : Int32} {s : mG} (h : KG z s) : pk (F_X12_say a1 a2 a3 s) (fun τ => KG z τ.2) := by
  unfold F_X12_say
  refine pk_b1 pk_top (fun _ _ => ?_)
  refine pk_ite ?_ ?_
  · exact (G_X12_say_22 h)
  · refine pk_b1 pk_top (fun _ _ => ?_)
    refine pk_ite ?_ ?_
    · exact (G_X12_say_22 h)
    · refine pk_b1 pk_top (fun _ _ => ?_)
      refine pk_ite ?_ ?_
      · exact (G_X12_say_22 h)
      · refine pk_b2 (G_X12_sureOf h) (fun _ s_1 (h_2 : KG z s_1) => ?_)
        refine pk_ite ?_ ?_
        · exact pk_some h_2
        · exact pk_some h_2
end
end
/-! 5zq1.empty -/
section
noncomputable section
/-! ALL GUESTS WEIGHED; an empty floor -/
theorem rel_sp {α β : Type} {u : α} {y : Option β} {Q : β → Prop} {R : α → β → Prop} (h : pk y Q) (k : ∀ v, Q v → R u v) : rel (some u) y R := fun _ e v e2 => Option.some.inj e ▸ k v (h v e2)
def sureN (w : Nat → Int32) (m g : Nat) : Int64 := sFold w (sStart w g) (glw w g) m
theorem sureN_r {b : mG} {m g : Nat} (hI : IM b) (hw : b.1 89 115 = cn m) (hm : m ≤ 6) : 0 ≤ (sureN (b.1 89) m g).toInt ∧ (sureN (b.1 89) m g).toInt ≤ 1000000 := by
  have st : ∀ k, k ≤ m → 0 ≤ (sFold (b.1 89) (sStart (b.1 89) g) (glw (b.1 89) g) k).toInt ∧ (sFold (b.1 89) (sStart (b.1 89) g) (glw (b.1 89) g) k).toInt ≤ 1000000 := by
    intro k
    induction k with
    | zero => intro _; exact Su_r sStart_u
    | succ k ih =>
      intro hk
      have i := ih (by omega)
      unfold sFold
      by_cases e : glw (b.1 89) g k = ci (-1)
      · rw [if_pos e]; exact i
      · rw [if_neg e]; exact byS_r hI hw hm (by omega) i
  exact st m (Nat.le_refl _)
theorem HK_low {w : Nat → Int32} {n nc : Nat} {a u : mG} (h : HK w n nc a) (e : ∀ j, 1 ≤ j → j ≤ 17 → u.1 j = a.1 j) : HK w n nc u := by
  obtain ⟨h1, h2, h3, h4, h5⟩ := h
  refine ⟨HSr1_row h1 (fun j q1 q2 => e j q1 q2) (fun _ _ => rfl), by rw [e 2 (by decide) (by decide)]; exact h2, h3, by rw [e 8 (by decide) (by decide)]; exact h4, h5⟩
theorem V_sureS {b s : mG} {n nc g m : Nat} (L : LTy nc (b.1 89)) (hn : n ≤ 12) (hg : g < n) (hw : b.1 89 115 = cn m) (hm : m ≤ 6) (e : s.1 89 = b.1 89) : pk (F_X12_sureOf (cn g) s) (fun τ => τ.1 = sureN (b.1 89) m g ∧ (∀ j, j ≠ 96 → j ≠ 97 → τ.2.1 j = s.1 j) ∧ τ.2.2 = s.2) := fun τ hτ => by
  have p := V_sureR (b := s) (n := n) (nc := nc) (g := g) (m := m) (by rw [e]; exact L) hn hg (by rw [e]; exact hw) hm τ hτ
  rw [e] at p
  exact ⟨p.1, p.2, G_X12_sureOf (z := s) (s := s) rfl τ hτ⟩
theorem V_weigh {a b : mG} {n nc m : Nat} (hI : IM b) (K : HK (b.1 89) n nc a) (h3 : a.1 10 3 = cn m) (hm : m ≤ 6) : pk (F_X0_weighAll a) (fun u => (∀ g, g < n → Su (u.1 76 g) (sureN (b.1 89) m g)) ∧ ∀ j, j ≠ 69 → j ≠ 70 → j ≠ 74 → j ≠ 76 → u.1 j = a.1 j) := by
  have hn := K.2.2.1
  unfold F_X0_weighAll F_X0_weighAll_L2
  refine pk_whl (fun v => ∃ k, k ≤ n ∧ v.1 = cn k ∧ (∀ g, g < k → Su (v.2.1 76 g) (sureN (b.1 89) m g)) ∧ ∀ j, j ≠ 69 → j ≠ 70 → j ≠ 74 → j ≠ 76 → v.2.1 j = a.1 j) ⟨0, Nat.zero_le _, rfl, fun g hg => absurd hg (by omega), fun _ _ _ _ _ => rfl⟩ (fun v hv => ?_)
  obtain ⟨x1, s⟩ := v
  obtain ⟨k, hk, q1o, q2o, ro⟩ := hv
  have q1 : x1 = cn k := q1o
  have q2 : ∀ g, g < k → Su (s.1 76 g) (sureN (b.1 89) m g) := q2o
  have r : ∀ j, j ≠ 69 → j ≠ 70 → j ≠ 74 → j ≠ 76 → s.1 j = a.1 j := ro
  have Ks : HK (b.1 89) n nc s := HK_low K (fun j h1 h2 => r j (by omega) (by omega) (by omega) (by omega))
  unfold F_X0_weighAll_B2
  dsimp only
  rw [q1, Ks.2.1]
  by_cases hkn : n ≤ k
  · rw [if_pos ((cn_le (by omega) (by omega)).mpr hkn)]
    exact pk_some (show (∀ g, g < n → Su (s.1 76 g) _) ∧ _ from ⟨fun g hg => q2 g (by omega), r⟩)
  rw [if_neg (fun q => hkn ((cn_le (by omega) (by omega)).mp q))]
  refine pk_b1 (V_glance Ks (by omega)) (fun u qu => ?_)
  obtain ⟨u1, u2⟩ := qu
  have Ku : HK (b.1 89) n nc u := HK_low Ks (fun j _ h2 => u2 j (by omega))
  have e10 : u.1 10 3 = cn m := by rw [u2 10 (by decide), r 10 (by decide) (by decide) (by decide) (by decide)]; exact h3
  refine pk_b2 (V_byGlance hI Ku (by omega : k < n) e10 hm u1) (fun v6 t qt => ?_)
  obtain ⟨t1o, t2o⟩ := qt
  have t1 : Su v6 (sureN (b.1 89) m k) := t1o
  have t2 : ∀ j, j ≠ 69 → j ≠ 70 → t.1 j = u.1 j := t2o
  rw [V_putJ sh76 (by omega) (by decide), b1_some]
  refine pk_some (show ∃ k', _ from ⟨k + 1, by omega, cnu (by omega), fun g hg => ?_, fun j h1 h2 h3 h4 => ?_⟩)
  · show Su (mu t.1 76 k v6 76 g) _
    by_cases e : g = k
    · subst e; rw [mu_same]; exact t1
    · rw [mu_cell (Or.inr e), t2 76 (by decide) (by decide), u2 76 (by decide)]
      exact q2 g (by omega)
  · show mu t.1 76 k v6 j = a.1 j
    exact (mu_row h4).trans ((t2 j h1 h2).trans ((u2 j h3).trans (r j h1 h2 h3 h4)))
theorem sh_i {Y Z : Int} (h1 : 0 ≤ Y) (h2 : Y ≤ 1000000) (k1 : 0 ≤ Z) (k2 : Z ≤ 1000000) : ∃ A : Int, Y * Z = A ∧ 0 ≤ A ∧ A ≤ 1000000000000 ∧ 0 ≤ A / 1000000 ∧ A / 1000000 ≤ Z := by
  have a0 : 0 ≤ Y * Z := Int.mul_nonneg h1 k1
  have a1 : Y * Z ≤ 1000000 * Z := Int.mul_le_mul_of_nonneg_right h2 k1
  generalize Y * Z = A at a0 a1
  exact ⟨A, rfl, a0, by omega, by omega, by omega⟩
theorem sh_r {y z : Int64} (h : 0 ≤ y.toInt ∧ y.toInt ≤ 1000000) (k : 0 ≤ z.toInt ∧ z.toInt ≤ 1000000) : 0 ≤ ((y * z) / cl 1000000).toInt ∧ ((y * z) / cl 1000000).toInt ≤ z.toInt := by
  obtain ⟨A, hA, a0, a1, d0, d1⟩ := sh_i h.1 h.2 k.1 k.2
  have c1 : -9223372036854775808 ≤ y.toInt * z.toInt := by rw [hA]; exact Int.le_trans (by decide) a0
  have c2 : y.toInt * z.toInt < 9223372036854775808 := by rw [hA]; exact Int.lt_of_le_of_lt a1 (by decide)
  have c : (y * z).toInt = A := (l_mul rfl rfl c1 c2).trans hA
  have d : ((y * z) / cl 1000000).toInt = A / 1000000 := l_div c (by decide : (cl 1000000).toInt = 1000000) a0 (by decide) (Int.lt_of_le_of_lt a1 (by decide))
  rw [d]
  exact ⟨d0, d1⟩
theorem sh_u {y z : Int64} (h : 0 ≤ y.toInt ∧ y.toInt ≤ 1000000) (k : 0 ≤ z.toInt ∧ z.toInt ≤ 1000000) : 0 ≤ ((y * z) / cl 1000000).toInt ∧ ((y * z) / cl 1000000).toInt ≤ 1000000 := ⟨(sh_r h k).1, Int.le_trans (sh_r h k).2 k.2⟩
theorem Su_share {s : mG} {x y : Int32} {u v : Int64} (h : Su x u) (k : Su y v) : pk (F_X11_share s x y) (fun z => Su z ((u * v) / cl 1000000)) := by
  unfold F_X11_share
  rw [← h.1, ← k.1]
  exact pk_some (Su_of (sh_u (Su_r h) (Su_r k)))
theorem Su_co {x : Int32} {u : Int64} (h : Su x u) : Su (ci 1000000 - x) (cl 1000000 - u) := by
  have e : (ci 1000000 - x).toInt = 1000000 - x.toInt := r_sub (by decide : (ci 1000000).toInt = 1000000) rfl (by have := h.2; omega) (by have := h.2; omega)
  have hh := h.2
  refine ⟨by rw [x64_sub h.2, ← h.1], ?_⟩
  rw [e]
  clear e
  exact ⟨by omega, by omega⟩
theorem co_r {u : Int64} (h : 0 ≤ u.toInt ∧ u.toInt ≤ 1000000) : 0 ≤ (cl 1000000 - u).toInt ∧ (cl 1000000 - u).toInt ≤ 1000000 := by
  have e : (cl 1000000 - u).toInt = 1000000 - u.toInt := l_sub (by decide : (cl 1000000).toInt = 1000000) rfl (by omega) (by omega)
  rw [e]
  clear e
  exact ⟨by omega, by omega⟩
/-- none is on the floor -/
def eFold (w : Nat → Int32) (m : Nat) (x : Int32) : Nat → Int64
  | 0 => cl 1000000
  | k + 1 => if w (119 + k) = x then (eFold w m x k * (cl 1000000 - sureN w m k)) / cl 1000000 else eFold w m x k
theorem eFold_0 {w : Nat → Int32} {m : Nat} {x : Int32} : Su (ci 1000000) (eFold w m x 0) := (show _ ∧ _ ∧ _ from ⟨(show cl 1000000 = (ci 1000000).toInt64 by decide), by decide, by decide⟩)
theorem eFold_s {w : Nat → Int32} {m k : Nat} {x : Int32} : eFold w m x (k + 1) = if w (119 + k) = x then (eFold w m x k * (cl 1000000 - sureN w m k)) / cl 1000000 else eFold w m x k := rfl
theorem V_emptyC {a b : mG} {n nc m : Nat} {x : Int32} (hI : IM b) (K : HK (b.1 89) n nc a) (h3 : a.1 10 3 = cn m) (hm : m ≤ 6) : pk (F_X0_emptyChance x a) (fun τ => Su τ.1 (eFold (b.1 89) m x n)) := by
  have hn := K.2.2.1
  unfold F_X0_emptyChance
  refine pk_b1 (V_weigh hI K h3 hm) (fun u qu => ?_)
  obtain ⟨u1, u2⟩ := qu
  have Ku : HK (b.1 89) n nc u := HK_low K (fun j h1 h2 => u2 j (by omega) (by omega) (by omega) (by omega))
  unfold F_X0_emptyChance_L9
  refine pk_whl (fun v => v.1 = x ∧ ∃ k, k ≤ n ∧ v.2.2.1 = cn k ∧ Su v.2.1 (eFold (b.1 89) m x k) ∧ v.2.2.2 = u) ⟨rfl, 0, Nat.zero_le _, rfl, eFold_0, rfl⟩ (fun v hv => ?_)
  obtain ⟨x1, x2, x3, s⟩ := v
  obtain ⟨q0o, k, hk, q1o, q2o, q3o⟩ := hv
  have q0 : x1 = x := q0o
  have q1 : x3 = cn k := q1o
  have q2 : Su x2 (eFold (b.1 89) m x k) := q2o
  have q3 : s = u := q3o
  unfold F_X0_emptyChance_B9 F_X0_emptyChance_55
  dsimp only
  rw [q0, q1, q3, Ku.2.1]
  by_cases hkn : n ≤ k
  · have ek : k = n := by omega
    rw [if_pos ((cn_le (by omega) (by omega)).mpr hkn)]
    rw [ek] at q2
    exact pk_some (show Su x2 _ from q2)
  rw [if_neg (fun q => hkn ((cn_le (by omega) (by omega)).mp q)), V_atG (c := 0) (k := ci 0) Ku.1.1 Ku.2.1 hn (by omega) (by decide) rfl, b1_some, show ixG k 0 = 119 + k from rfl]
  by_cases hx : b.1 89 (119 + k) = x
  · rw [if_pos hx, V_cellJ sh76 (by omega) (by decide), b1_some]
    refine pk_b1 (Su_share q2 (Su_co (u1 k (by omega)))) (fun z hz => ?_)
    exact pk_some (show _ ∧ ∃ k', _ from ⟨rfl, k + 1, by omega, cnu (by omega), by rw [eFold_s, if_pos hx]; exact hz, rfl⟩)
  · rw [if_neg hx]
    exact pk_some (show _ ∧ ∃ k', _ from ⟨rfl, k + 1, by omega, cnu (by omega), by rw [eFold_s, if_neg hx]; exact q2, rfl⟩)
theorem V_emptyR {b : mG} {n nc m : Nat} {x : Int32} (L : LTy nc (b.1 89)) (g2 : b.1 89 112 = cn n) (hn : n ≤ 12) (hw : b.1 89 115 = cn m) (hm : m ≤ 6) : pk (F_X12_empty_L18 x (cl 1000000) (ci 0) b) (fun τ => τ.1 = (eFold (b.1 89) m x n).toInt32) := by
  unfold F_X12_empty_L18
  refine pk_whl (fun v => v.1 = x ∧ ∃ k, k ≤ n ∧ v.2.2.1 = cn k ∧ v.2.1 = eFold (b.1 89) m x k ∧ ∀ j, j ≠ 96 → j ≠ 97 → v.2.2.2.1 j = b.1 j) ⟨rfl, 0, Nat.zero_le _, rfl, rfl, fun _ _ _ => rfl⟩ (fun v hv => ?_)
  obtain ⟨x1, x2, x4, s⟩ := v
  obtain ⟨q0o, k, hk, q1o, q2o, ro⟩ := hv
  have q0 : x1 = x := q0o
  have q1 : x4 = cn k := q1o
  have q2 : x2 = eFold (b.1 89) m x k := q2o
  have r : ∀ j, j ≠ 96 → j ≠ 97 → s.1 j = b.1 j := ro
  have e89 : s.1 89 = b.1 89 := r 89 (by decide) (by decide)
  unfold F_X12_empty_B18 F_X12_empty_64
  dsimp only
  rw [q0, q1, q2, e89, g2]
  by_cases hkn : n ≤ k
  · have ek : k = n := by omega
    rw [if_pos ((cn_le (by omega) (by omega)).mpr hkn)]
    exact pk_some (show (eFold (b.1 89) m x k).toInt32 = (eFold (b.1 89) m x n).toInt32 from by rw [ek])
  rw [if_neg (fun q => hkn ((cn_le (by omega) (by omega)).mp q)), show c8 119 + cn k = cn (119 + k) from cn_add (a := 119) (by omega), cn_nat (n := 119 + k) (by omega)]
  refine pk_nn ?_
  by_cases hx : b.1 89 (119 + k) = x
  · rw [if_pos hx]
    refine pk_b2 (V_sureS L hn (by omega : k < n) hw hm e89) (fun v9 s8 qt => ?_)
    obtain ⟨t1o, t2o, _⟩ := qt
    have t1 : v9 = sureN (b.1 89) m k := t1o
    have t2 : ∀ j, j ≠ 96 → j ≠ 97 → s8.1 j = s.1 j := t2o
    rw [t1]
    exact pk_some (show _ ∧ ∃ k', _ from ⟨rfl, k + 1, by omega, cnu (by omega), by rw [eFold_s, if_pos hx], fun j h1 h2 => (t2 j h1 h2).trans (r j h1 h2)⟩)
  · rw [if_neg hx]
    exact pk_some (show _ ∧ ∃ k', _ from ⟨rfl, k + 1, by omega, cnu (by omega), by rw [eFold_s, if_neg hx], r⟩)
theorem R_empty {a b : mG} {x : Int32} (hI : IM b) (h : SIM a b) : rel (F_X11_empty x a) (F_X12_empty x b) (fun τ υ => τ.1 = υ.1) := by
  obtain ⟨n, nc, m, K, g2, V, hm, h3, hw⟩ := SIM_S h
  unfold F_X11_empty F_X12_empty
  rw [V_within, F_isIn, b1_some, b1_some]
  refine rel_ifs Iff.rfl (fun _ => rel_some rfl) (fun hx => ?_)
  refine rel_l2 (V_emptyC hI K h3 hm) (fun v6 s5 qo => ?_)
  have q : Su v6 (eFold (b.1 89) m x n) := qo
  exact rel_sp (V_emptyR K.2.2.2.2 g2 K.2.2.1 hw hm) (fun v qv => show v6 = v.1 from by rw [qv]; exact (Su_32 q).symm)
end
end
/-! 5zq2.dist -/
section
noncomputable section
/-! HOW MANY ARE IN: the chances, on both sides -/
def dN (w : Nat → Int32) (m sk : Nat) : Nat → Nat → Int64
  | 0, i => if i = 0 then cl 1000000 else cz 0
  | k + 1, i => if k = sk then dN w m sk k i else (dN w m sk k i * (cl 1000000 - sureN w m k)) / cl 1000000 + (if i = 0 then cz 0 else (dN w m sk k (i - 1) * sureN w m k) / cl 1000000)
theorem dN_0 {w : Nat → Int32} {m sk i : Nat} : dN w m sk 0 i = if i = 0 then cl 1000000 else cz 0 := rfl
theorem dN_s {w : Nat → Int32} {m sk k i : Nat} (h : k ≠ sk) : dN w m sk (k + 1) i = (dN w m sk k i * (cl 1000000 - sureN w m k)) / cl 1000000 + (if i = 0 then cz 0 else (dN w m sk k (i - 1) * sureN w m k) / cl 1000000) := if_neg h
theorem dN_k {w : Nat → Int32} {m sk k i : Nat} (h : k = sk) : dN w m sk (k + 1) i = dN w m sk k i := if_pos h
theorem mil_r : 0 ≤ (cl 1000000).toInt ∧ (cl 1000000).toInt ≤ 1000000 := by decide
theorem cz_r : 0 ≤ (cz 0).toInt ∧ (cz 0).toInt ≤ 1000000 := by decide
theorem add_r {y z : Int64} {Z : Int} (h0 : 0 ≤ Z) (hz : Z ≤ 1000000) (h : 0 ≤ y.toInt ∧ y.toInt ≤ 1000000 - Z) (k : 0 ≤ z.toInt ∧ z.toInt ≤ Z) : 0 ≤ (y + z).toInt ∧ (y + z).toInt ≤ 1000000 := by
  have e : (y + z).toInt = y.toInt + z.toInt := l_add rfl rfl (by omega) (by omega)
  rw [e]
  clear e
  exact ⟨by omega, by omega⟩
/-- one step of the chances -/
theorem st_r {p q z : Int64} (hp : 0 ≤ p.toInt ∧ p.toInt ≤ 1000000) (hq : 0 ≤ q.toInt ∧ q.toInt ≤ 1000000) (hz : 0 ≤ z.toInt ∧ z.toInt ≤ 1000000) : 0 ≤ ((p * (cl 1000000 - z)) / cl 1000000 + (q * z) / cl 1000000).toInt ∧ ((p * (cl 1000000 - z)) / cl 1000000 + (q * z) / cl 1000000).toInt ≤ 1000000 := by
  have e : (cl 1000000 - z).toInt = 1000000 - z.toInt := l_sub (by decide : (cl 1000000).toInt = 1000000) rfl (by omega) (by omega)
  have r1 := sh_r hp (co_r hz)
  have r2 := sh_r hq hz
  rw [e] at r1
  exact add_r hz.1 hz.2 r1 r2
theorem st_0 {p z : Int64} (hp : 0 ≤ p.toInt ∧ p.toInt ≤ 1000000) (hz : 0 ≤ z.toInt ∧ z.toInt ≤ 1000000) : 0 ≤ ((p * (cl 1000000 - z)) / cl 1000000 + cz 0).toInt ∧ ((p * (cl 1000000 - z)) / cl 1000000 + cz 0).toInt ≤ 1000000 := by
  have e : (cl 1000000 - z).toInt = 1000000 - z.toInt := l_sub (by decide : (cl 1000000).toInt = 1000000) rfl (by omega) (by omega)
  have r1 := sh_r hp (co_r hz)
  rw [e] at r1
  exact add_r hz.1 hz.2 r1 ⟨by decide, by rw [show (cz 0).toInt = 0 by decide]; exact hz.1⟩
theorem dN_r {b : mG} {m sk : Nat} (hI : IM b) (hw : b.1 89 115 = cn m) (hm : m ≤ 6) : ∀ k i, 0 ≤ (dN (b.1 89) m sk k i).toInt ∧ (dN (b.1 89) m sk k i).toInt ≤ 1000000 := by
  intro k
  induction k with
  | zero =>
    intro i
    rw [dN_0]
    by_cases e : i = 0
    · rw [if_pos e]; exact mil_r
    · rw [if_neg e]; exact cz_r
  | succ k ih =>
    intro i
    by_cases e : k = sk
    · rw [dN_k e]; exact ih i
    · rw [dN_s e]
      by_cases e0 : i = 0
      · rw [if_pos e0]; exact st_0 (ih i) (sureN_r hI hw hm)
      · rw [if_neg e0]; exact st_r (ih i) (ih (i - 1)) (sureN_r hI hw hm)
theorem Su_add {x y : Int32} {u v : Int64} (h : Su x u) (k : Su y v) (r : 0 ≤ (u + v).toInt ∧ (u + v).toInt ≤ 1000000) : Su (x + y) (u + v) := by
  have h1 := h.2
  have k1 := k.2
  have c1 : -2147483648 ≤ x.toInt + y.toInt ∧ x.toInt + y.toInt < 2147483648 := ⟨by omega, by omega⟩
  have c2 : -9223372036854775808 ≤ x.toInt + y.toInt ∧ x.toInt + y.toInt < 9223372036854775808 := ⟨by omega, by omega⟩
  have e : (x + y).toInt = x.toInt + y.toInt := r_add rfl rfl c1.1 c1.2
  have f : (u + v).toInt = x.toInt + y.toInt := l_add (Su_t h) (Su_t k) c2.1 c2.2
  rw [f] at r
  refine (show _ ∧ _ ∧ _ from ⟨Int64.toInt_inj.mp (f.trans ((Int32.toInt_toInt64 _).trans e).symm), ?_, ?_⟩)
  · rw [e]; exact r.1
  · rw [e]; exact r.2
theorem cn_ne0 {k : Nat} (h : k < 2147483648) (h0 : k ≠ 0) : ¬ cn k = 0 := fun q => h0 ((cn_inj h (by decide)).mp (q.trans (by decide : (0 : Int32) = cn 0)))
theorem cn_ne1 {k : Nat} (h : k < 2147483648) : ¬ cn k = ci (-1) := fun q => by
  have e := congrArg Int32.toInt q
  rw [t_cn h, show (ci (-1)).toInt = -1 by decide] at e
  omega
theorem Su_z : Su (ci 0) (cz 0) := (show _ ∧ _ ∧ _ from ⟨by decide, by decide, by decide⟩)
theorem Su_m : Su (ci 1000000) (cl 1000000) := (show _ ∧ _ ∧ _ from ⟨by decide, by decide, by decide⟩)
theorem sh_z {z : Int64} (hz : 0 ≤ z.toInt ∧ z.toInt ≤ 1000000) : (cz 0 * z) / cl 1000000 = cz 0 := by
  have r := sh_r cz_r hz
  have c : (cz 0 * z).toInt = 0 := by
    have e : (cz 0).toInt * z.toInt = 0 := by rw [show (cz 0).toInt = 0 by decide, Int.zero_mul]
    rw [← e]
    exact l_mul rfl rfl (by rw [e]; decide) (by rw [e]; decide)
  refine Int64.toInt_inj.mp ?_
  rw [l_div c (by decide : (cl 1000000).toInt = 1000000) (by decide) (by decide) (by decide)]
  decide
/-- a cell below the row -/
theorem V_cell_neg {j : Nat} {s : mG} {x : Int32} (h : x < 0) : F_X11_cell j s x = some (ci 0) := by
  unfold F_X11_cell F_X11_cell_20
  rw [if_pos h]
/-- the class takes one guest in -/
theorem V_oneC {s : mG} {z : Int32} {b : mG} {m sk k : Nat} (hI : IM b) (hw : b.1 89 115 = cn m) (hm : m ≤ 6) (hs : k ≠ sk) (hz : Su z (sureN (b.1 89) m k)) (h : ∀ i, i < 13 → Su (s.1 75 i) (dN (b.1 89) m sk k i)) : pk (F_X0_countChance z s) (fun u => (∀ i, i < 13 → Su (u.1 75 i) (dN (b.1 89) m sk (k + 1) i)) ∧ ∀ j, j ≠ 75 → u.1 j = s.1 j) := by
  unfold F_X0_countChance F_X0_countChance_L8
  rw [show cn 13 - ci 1 = ci 13 + ci (-1) by decide]
  refine pk_whl (fun v => v.1 = z ∧ ∃ p, p ≤ 13 ∧ v.2.1 = cn p + ci (-1) ∧ (∀ i, i < 13 → Su (v.2.2.1 75 i) (dN (b.1 89) m sk (if p ≤ i then k + 1 else k) i)) ∧ ∀ j, j ≠ 75 → v.2.2.1 j = s.1 j) ⟨rfl, 13, by omega, rfl, fun i hi => by rw [if_neg (by omega)]; exact h i hi, fun _ _ => rfl⟩ (fun v hv => ?_)
  obtain ⟨x1, x2, t⟩ := v
  obtain ⟨q0o, p, hp, q1o, q2o, ro⟩ := hv
  have q0 : x1 = z := q0o
  have q1 : x2 = cn p + ci (-1) := q1o
  have q2 : ∀ i, i < 13 → Su (t.1 75 i) (dN (b.1 89) m sk (if p ≤ i then k + 1 else k) i) := q2o
  have r : ∀ j, j ≠ 75 → t.1 j = s.1 j := ro
  unfold F_X0_countChance_B8
  dsimp only
  rw [q0, q1]
  by_cases hp0 : p = 0
  · subst hp0
    rw [if_pos (show cn 0 + ci (-1) < 0 by decide)]
    exact pk_some (show (∀ i, i < 13 → Su (t.1 75 i) _) ∧ _ from ⟨fun i hi => by have := q2 i hi; rw [if_pos (Nat.zero_le i)] at this; exact this, r⟩)
  obtain ⟨d, rfl⟩ : ∃ d, p = d + 1 := ⟨p - 1, by omega⟩
  have e1 : cn (d + 1) + ci (-1) = cn d := by rw [← cnu (by omega), Int32.add_assoc]; exact (congrArg (cn d + ·) (by decide : ci 1 + ci (-1) = 0)).trans (Int32.add_zero _)
  have S1 := q2 d (by omega)
  rw [if_neg (by omega)] at S1
  rw [e1, if_neg (cn_nn (by omega)), V_cellJ (j := 75) (k := d) sh75 (by omega) (by decide)]
  have fin : ∀ v3 : Int32, Su v3 (if d = 0 then cz 0 else dN (b.1 89) m sk k (d - 1)) → pk (b1 (F_X11_share t v3 z) fun v5 => b1 (some (t.1 75 d)) fun v7 => b1 (F_X11_share t v7 (ci 1000000 - z)) fun v9 => b1 (F_X11_put 75 (cn d) (v9 + v5) t) fun s11 => some (Sum.inl (z, cn d + ci (-1), s11))) (se (fun v : Int32 × Int32 × mG => v.1 = z ∧ ∃ p, p ≤ 13 ∧ v.2.1 = cn p + ci (-1) ∧ (∀ i, i < 13 → Su (v.2.2.1 75 i) (dN (b.1 89) m sk (if p ≤ i then k + 1 else k) i)) ∧ ∀ j, j ≠ 75 → v.2.2.1 j = s.1 j) (fun u : mG => (∀ i, i < 13 → Su (u.1 75 i) (dN (b.1 89) m sk (k + 1) i)) ∧ ∀ j, j ≠ 75 → u.1 j = s.1 j)) := fun v3 h3 => by
    refine pk_b1 (Su_share h3 hz) (fun v5 h5 => ?_)
    rw [b1_some]
    refine pk_b1 (Su_share S1 (Su_co hz)) (fun v9 h9 => ?_)
    rw [V_putJ sh75 (by omega) (by decide), b1_some]
    have sm : Su (v9 + v5) (dN (b.1 89) m sk (k + 1) d) := by
      have rr := dN_r (sk := sk) hI hw hm (k + 1) d
      rw [dN_s hs] at rr ⊢
      by_cases e0 : d = 0
      · rw [if_pos e0] at rr h5 ⊢
        rw [sh_z (sureN_r hI hw hm)] at h5
        exact Su_add h9 h5 rr
      · rw [if_neg e0] at rr h5 ⊢
        exact Su_add h9 h5 rr
    refine pk_some (show _ ∧ ∃ p', _ from ⟨rfl, d, by omega, rfl, fun i hi => ?_, fun j hj => ?_⟩)
    · show Su (mu t.1 75 d (v9 + v5) 75 i) _
      by_cases e : i = d
      · rw [e, mu_same, if_pos (Nat.le_refl d)]; exact sm
      · rw [mu_cell (Or.inr e)]
        have := q2 i hi
        by_cases f : d + 1 ≤ i
        · rw [if_pos f] at this
          rw [if_pos (by omega)]; exact this
        · rw [if_neg f] at this
          rw [if_neg (by omega)]; exact this
    · show mu t.1 75 d (v9 + v5) j = s.1 j
      exact (mu_row hj).trans (r j hj)
  by_cases d0 : d = 0
  · rw [V_cell_neg (show cn d - ci 1 < 0 by rw [d0]; decide), b1_some]
    exact fin (ci 0) (by rw [if_pos d0]; exact Su_z)
  · rw [show cn d - ci 1 = cn (d - 1) from cn_sub (b := 1) (by omega) (by omega), V_cellJ (j := 75) (k := d - 1) sh75 (by omega) (by decide), b1_some]
    refine fin _ ?_
    rw [if_neg d0]
    have := q2 (d - 1) (by omega)
    rw [if_neg (by omega)] at this
    exact this
end
end
/-! 5zq3.count -/
section
noncomputable section
theorem V_guestsC {b u : mG} {n nc m sk : Nat} {e : Int32} (hI : IM b) (Ku : HK (b.1 89) n nc u) (hw : b.1 89 115 = cn m) (hm : m ≤ 6) (he : ∀ k, k < n → (cn k = e ↔ k = sk)) (u1 : ∀ g, g < n → Su (u.1 76 g) (sureN (b.1 89) m g)) {z : mG} (hz1 : ∀ i, i < 13 → Su (z.1 75 i) (dN (b.1 89) m sk 0 i)) (hz2 : ∀ j, j ≠ 75 → z.1 j = u.1 j) : pk (F_X0_countChances_L39 e (ci 0) z) (fun t => (∀ i, i < 13 → Su (t.1 75 i) (dN (b.1 89) m sk n i)) ∧ ∀ j, j ≠ 75 → t.1 j = u.1 j) := by
  have hn := Ku.2.2.1
  unfold F_X0_countChances_L39
  refine pk_whl (fun v => v.1 = e ∧ ∃ k, k ≤ n ∧ v.2.1 = cn k ∧ (∀ i, i < 13 → Su (v.2.2.1 75 i) (dN (b.1 89) m sk k i)) ∧ ∀ j, j ≠ 75 → v.2.2.1 j = u.1 j) ⟨rfl, 0, Nat.zero_le _, rfl, hz1, hz2⟩ (fun v hv => ?_)
  obtain ⟨x1, x2, s⟩ := v
  obtain ⟨q0o, k, hk, q1o, q2o, ro⟩ := hv
  have q0 : x1 = e := q0o
  have q1 : x2 = cn k := q1o
  have q2 : ∀ i, i < 13 → Su (s.1 75 i) (dN (b.1 89) m sk k i) := q2o
  have r : ∀ j, j ≠ 75 → s.1 j = u.1 j := ro
  unfold F_X0_countChances_B39 F_X0_countChances_70
  dsimp only
  rw [q0, q1, r 2 (by decide), Ku.2.1]
  by_cases hkn : n ≤ k
  · have ek : k = n := by omega
    rw [if_pos ((cn_le (by omega) (by omega)).mpr hkn)]
    rw [ek] at q2
    exact pk_some (show (∀ i, i < 13 → Su (s.1 75 i) _) ∧ _ from ⟨q2, r⟩)
  rw [if_neg (fun q => hkn ((cn_le (by omega) (by omega)).mp q))]
  by_cases hs : k = sk
  · rw [if_pos ((he k (by omega)).mpr hs)]
    exact pk_some (show _ ∧ ∃ k', _ from ⟨rfl, k + 1, by omega, cnu (by omega), fun i hi => by rw [dN_k hs]; exact q2 i hi, r⟩)
  · rw [if_neg (fun q => hs ((he k (by omega)).mp q)), V_cellJ (j := 76) (k := k) sh76 (by omega) (by decide), b1_some, r 76 (by decide)]
    refine pk_b1 (V_oneC hI hw hm hs (u1 k (by omega)) q2) (fun t qt => ?_)
    obtain ⟨t1, t2⟩ := qt
    exact pk_some (show _ ∧ ∃ k', _ from ⟨rfl, k + 1, by omega, cnu (by omega), t1, fun j hj => (t2 j hj).trans (r j hj)⟩)
theorem V_countC {a b : mG} {n nc m sk : Nat} {e : Int32} (hI : IM b) (K : HK (b.1 89) n nc a) (h3 : a.1 10 3 = cn m) (hw : b.1 89 115 = cn m) (hm : m ≤ 6) (he : ∀ k, k < n → (cn k = e ↔ k = sk)) : pk (F_X0_countChances e a) (fun u => (∀ i, i < 13 → Su (u.1 75 i) (dN (b.1 89) m sk n i)) ∧ (∀ g, g < n → Su (u.1 76 g) (sureN (b.1 89) m g)) ∧ ∀ j, j ≠ 69 → j ≠ 70 → j ≠ 74 → j ≠ 75 → j ≠ 76 → u.1 j = a.1 j) := by
  unfold F_X0_countChances
  refine pk_b1 (V_weigh hI K h3 hm) (fun u qu => ?_)
  obtain ⟨u1, u2⟩ := qu
  have Ku : HK (b.1 89) n nc u := HK_low K (fun j h1 h2 => u2 j (by omega) (by omega) (by omega) (by omega))
  unfold F_X0_countChances_L6
  refine pk_whl (fun v => v.1 = e ∧ ∃ k, k ≤ 13 ∧ v.2.1 = cn k ∧ (∀ i, i < k → Su (v.2.2.1 75 i) (dN (b.1 89) m sk 0 i)) ∧ ∀ j, j ≠ 75 → v.2.2.1 j = u.1 j) ⟨rfl, 0, Nat.zero_le _, rfl, fun i hi => absurd hi (by omega), fun _ _ => rfl⟩ (fun v hv => ?_)
  obtain ⟨x1, x2, s⟩ := v
  obtain ⟨q0o, k, hk, q1o, q2o, ro⟩ := hv
  have q0 : x1 = e := q0o
  have q1 : x2 = cn k := q1o
  have q2 : ∀ i, i < k → Su (s.1 75 i) (dN (b.1 89) m sk 0 i) := q2o
  have r : ∀ j, j ≠ 75 → s.1 j = u.1 j := ro
  unfold F_X0_countChances_B6 F_X0_countChances_30
  dsimp only
  rw [q0, q1]
  by_cases hk13 : 13 ≤ k
  · rw [if_pos ((cn_le (by omega) (by omega)).mpr hk13)]
    refine pk_b1r (fun t ht => ?_)
    have q := V_guestsC hI Ku hw hm he u1 (fun i hi => q2 i (by omega)) r t ht
    exact ⟨q.1, fun g hg => by rw [q.2 76 (by decide)]; exact u1 g hg, fun j h1 h2 h3 h4 h5 => (q.2 j h4).trans (u2 j h1 h2 h3 h5)⟩
  rw [if_neg (fun q => hk13 ((cn_le (by omega) (by omega)).mp q)), cn_nat (n := k) (by omega)]
  have fin : ∀ y : Int32, Su y (dN (b.1 89) m sk 0 k) → pk (if cn k < 0 ∨ 13 ≤ k then none else some (Sum.inl (e, cn k + ci 1, ((mu s.1 75 k y, s.2) : mG)))) (se (fun v : Int32 × Int32 × mG => v.1 = e ∧ ∃ k, k ≤ 13 ∧ v.2.1 = cn k ∧ (∀ i, i < k → Su (v.2.2.1 75 i) (dN (b.1 89) m sk 0 i)) ∧ ∀ j, j ≠ 75 → v.2.2.1 j = u.1 j) (fun u : mG => (∀ i, i < 13 → Su (u.1 75 i) (dN (b.1 89) m sk n i)) ∧ (∀ g, g < n → Su (u.1 76 g) (sureN (b.1 89) m g)) ∧ ∀ j, j ≠ 69 → j ≠ 70 → j ≠ 74 → j ≠ 75 → j ≠ 76 → u.1 j = a.1 j)) := fun y hy => by
    refine pk_nn (pk_some (show _ ∧ ∃ k', _ from ⟨rfl, k + 1, by omega, cnu (by omega), fun i hi => ?_, fun j hj => ?_⟩))
    · show Su (mu s.1 75 k y 75 i) _
      by_cases f : i = k
      · rw [f, mu_same]; exact hy
      · rw [mu_cell (Or.inr f)]
        exact q2 i (by omega)
    · show mu s.1 75 k y j = u.1 j
      exact (mu_row hj).trans (r j hj)
  by_cases k0 : k = 0
  · rw [if_pos (show cn k = 0 by rw [k0]; rfl)]
    exact fin (ci 1000000) (by rw [dN_0, if_pos k0]; exact Su_m)
  · rw [if_neg (show ¬ cn k = 0 from cn_ne0 (by omega) k0)]
    exact fin (ci 0) (by rw [dN_0, if_neg k0]; exact Su_z)
theorem muL_ap {D : Nat → Nat → Int64} {i k j l : Nat} {v : Int64} : muL D i k v j l = if j = i ∧ l = k then v else D j l := by
  unfold muL
  by_cases h : j = i
  · by_cases k' : l = k
    · rw [if_pos h, if_pos k', if_pos ⟨h, k'⟩]
    · rw [if_pos h, if_neg k', if_neg (fun q => k' q.2)]
  · rw [if_neg h, if_neg (fun q => h q.1)]
theorem muL_same {D : Nat → Nat → Int64} {i k : Nat} {v : Int64} : muL D i k v i k = v := by rw [muL_ap, if_pos ⟨rfl, rfl⟩]
theorem muL_cell {D : Nat → Nat → Int64} {i k j l : Nat} {v : Int64} (h : j ≠ i ∨ l ≠ k) : muL D i k v j l = D j l := by
  rw [muL_ap, if_neg (fun q => h.elim (fun e => e q.1) (fun e => e q.2))]
/-- the reference takes one guest in -/
theorem V_oneR {b s : mG} {n m k : Nat} (g2 : s.1 89 112 = cn n) (hn : n ≤ 12) (hk : k < 12) (h : ∀ i, i ≤ n → s.2 98 i = dN (b.1 89) m 12 k i) : pk (F_X12_laysChances_L64 (cn k) (sureN (b.1 89) m k) (s.1 89 112) s) (se (fun τ : Int32 × mG => τ.1 = cn (k + 1) ∧ (∀ i, i ≤ n → τ.2.2 98 i = dN (b.1 89) m 12 (k + 1) i) ∧ τ.2.1 = s.1) (fun _ : mG => False)) := by
  unfold F_X12_laysChances_L64
  rw [g2, show cn n = cn (n + 1) + ci (-1) by rw [← cnu (by omega), Int32.add_assoc]; exact ((congrArg (cn n + ·) (by decide : ci 1 + ci (-1) = 0)).trans (Int32.add_zero _)).symm]
  refine pk_whl (fun v => v.1 = cn k ∧ v.2.1 = sureN (b.1 89) m k ∧ ∃ p, p ≤ n + 1 ∧ v.2.2.1 = cn p + ci (-1) ∧ (∀ i, i ≤ n → v.2.2.2.2 98 i = dN (b.1 89) m 12 (if p ≤ i then k + 1 else k) i) ∧ v.2.2.2.1 = s.1) ⟨rfl, rfl, n + 1, by omega, rfl, fun i hi => by rw [if_neg (by omega)]; exact h i hi, rfl⟩ (fun v hv => ?_)
  obtain ⟨x1, x2, x4, t⟩ := v
  obtain ⟨q0o, q1o, p, hp, q2o, q3o, ro⟩ := hv
  have q0 : x1 = cn k := q0o
  have q1 : x2 = sureN (b.1 89) m k := q1o
  have q2 : x4 = cn p + ci (-1) := q2o
  have q3 : ∀ i, i ≤ n → t.2 98 i = dN (b.1 89) m 12 (if p ≤ i then k + 1 else k) i := q3o
  have r : t.1 = s.1 := ro
  unfold F_X12_laysChances_B64
  dsimp only
  rw [q0, q1, q2]
  by_cases hp0 : p = 0
  · subst hp0
    rw [if_pos (show cn 0 + ci (-1) < 0 by decide)]
    exact pk_some (show _ ∧ _ ∧ _ from ⟨cnu (by omega), fun i hi => by have := q3 i hi; rw [if_pos (Nat.zero_le i)] at this; exact this, r⟩)
  obtain ⟨d, rfl⟩ : ∃ d, p = d + 1 := ⟨p - 1, by omega⟩
  have e1 : cn (d + 1) + ci (-1) = cn d := by rw [← cnu (by omega), Int32.add_assoc]; exact (congrArg (cn d + ·) (by decide : ci 1 + ci (-1) = 0)).trans (Int32.add_zero _)
  have S1 := q3 d (by omega)
  rw [if_neg (by omega)] at S1
  rw [e1, if_neg (cn_nn (n := d) (by omega)), cn_nat (n := d) (by omega), S1]
  refine pk_nn ?_
  have fin : ∀ y : Int64, y = (if d = 0 then cz 0 else (dN (b.1 89) m 12 k (d - 1) * sureN (b.1 89) m k) / cl 1000000) → pk (F_X12_laysChances_116 (cn k) (sureN (b.1 89) m k) (cn d) (cn d) ((dN (b.1 89) m 12 k d * (cl 1000000 - sureN (b.1 89) m k)) / cl 1000000) y t) (se (fun v : Int32 × Int64 × Int32 × mG => v.1 = cn k ∧ v.2.1 = sureN (b.1 89) m k ∧ ∃ p, p ≤ n + 1 ∧ v.2.2.1 = cn p + ci (-1) ∧ (∀ i, i ≤ n → v.2.2.2.2 98 i = dN (b.1 89) m 12 (if p ≤ i then k + 1 else k) i) ∧ v.2.2.2.1 = s.1) (se (fun τ : Int32 × mG => τ.1 = cn (k + 1) ∧ (∀ i, i ≤ n → τ.2.2 98 i = dN (b.1 89) m 12 (k + 1) i) ∧ τ.2.1 = s.1) (fun _ : mG => False))) := fun y hy => by
    unfold F_X12_laysChances_116
    rw [cn_nat (n := d) (by omega)]
    refine pk_nn (pk_some (show _ ∧ _ ∧ ∃ p', _ from ⟨rfl, rfl, d, by omega, rfl, fun i hi => ?_, r⟩))
    show muL t.2 98 d _ 98 i = _
    by_cases f : i = d
    · rw [f, muL_same, if_pos (Nat.le_refl d), dN_s (show k ≠ 12 by omega), hy]
    · rw [muL_cell (Or.inr f)]
      have := q3 i hi
      by_cases g : d + 1 ≤ i
      · rw [if_pos g] at this
        rw [if_pos (by omega)]; exact this
      · rw [if_neg g] at this
        rw [if_neg (by omega)]; exact this
  by_cases d0 : d = 0
  · rw [if_pos (show cn d = 0 by rw [d0]; rfl)]
    exact fin _ (by rw [if_pos d0])
  · rw [if_neg (show ¬ cn d = 0 from cn_ne0 (by omega) d0), show cn d - ci 1 = cn (d - 1) from cn_sub (b := 1) (by omega) (by omega), cn_nat (n := d - 1) (by omega)]
    refine pk_nn (fin _ ?_)
    have S2 := q3 (d - 1) (by omega)
    rw [if_neg (by omega)] at S2
    rw [if_neg d0, S2]
theorem V_laysC {b : mG} {n nc m : Nat} (L : LTy nc (b.1 89)) (g2 : b.1 89 112 = cn n) (hn : n ≤ 12) (hw : b.1 89 115 = cn m) (hm : m ≤ 6) {a : mG} (ha : ∀ j, j ≠ 96 → j ≠ 97 → a.1 j = b.1 j) : pk (F_X12_laysChances a) (fun t => (∀ i, i ≤ n → t.2 98 i = dN (b.1 89) m 12 n i) ∧ ∀ j, j ≠ 96 → j ≠ 97 → t.1 j = b.1 j) := by
  unfold F_X12_laysChances F_X12_laysChances_L2
  refine pk_whl (fun v => ∃ k, k ≤ n + 1 ∧ v.1 = cn k ∧ (∀ i, i < k → v.2.2 98 i = dN (b.1 89) m 12 0 i) ∧ ∀ j, j ≠ 96 → j ≠ 97 → v.2.1 j = b.1 j) ⟨0, Nat.zero_le _, rfl, fun i hi => absurd hi (by omega), ha⟩ (fun v hv => ?_)
  obtain ⟨x1, s⟩ := v
  obtain ⟨k, hk, q1o, q2o, ro⟩ := hv
  have q1 : x1 = cn k := q1o
  have q2 : ∀ i, i < k → s.2 98 i = dN (b.1 89) m 12 0 i := q2o
  have r : ∀ j, j ≠ 96 → j ≠ 97 → s.1 j = b.1 j := ro
  unfold F_X12_laysChances_B2 F_X12_laysChances_29
  dsimp only
  rw [q1, r 89 (by decide) (by decide), g2]
  by_cases hkn : n < k
  · rw [if_pos ((cn_lt (by omega) (by omega)).mpr hkn)]
    refine pk_b1r ?_
    unfold F_X12_laysChances_L38
    refine pk_whl (fun v => ∃ k, k ≤ n ∧ v.1 = cn k ∧ (∀ i, i ≤ n → v.2.2 98 i = dN (b.1 89) m 12 k i) ∧ ∀ j, j ≠ 96 → j ≠ 97 → v.2.1 j = b.1 j) ⟨0, Nat.zero_le _, rfl, fun i hi => q2 i (by omega), r⟩ (fun v hv => ?_)
    obtain ⟨y1, t⟩ := v
    obtain ⟨p, hp, p1o, p2o, rto⟩ := hv
    have p1 : y1 = cn p := p1o
    have p2 : ∀ i, i ≤ n → t.2 98 i = dN (b.1 89) m 12 p i := p2o
    have rt : ∀ j, j ≠ 96 → j ≠ 97 → t.1 j = b.1 j := rto
    have e89 : t.1 89 = b.1 89 := rt 89 (by decide) (by decide)
    unfold F_X12_laysChances_B38
    dsimp only
    rw [p1, e89, g2]
    by_cases hpn : n ≤ p
    · have ep : p = n := by omega
      rw [if_pos ((cn_le (by omega) (by omega)).mpr hpn)]
      rw [ep] at p2
      exact pk_some (show (∀ i, i ≤ n → t.2 98 i = _) ∧ _ from ⟨p2, rt⟩)
    rw [if_neg (fun q => hpn ((cn_le (by omega) (by omega)).mp q))]
    refine pk_b2 (V_sureS L hn (by omega : p < n) hw hm e89) (fun v5 s4 qt => ?_)
    obtain ⟨t1o, t2o, t3o⟩ := qt
    have t1 : v5 = sureN (b.1 89) m p := t1o
    have t2 : ∀ j, j ≠ 96 → j ≠ 97 → s4.1 j = t.1 j := t2o
    have t3 : s4.2 = t.2 := t3o
    rw [t1]
    intro o ho
    have q := V_oneR (b := b) (s := s4) (n := n) (m := m) (k := p) (by rw [t2 89 (by decide) (by decide), e89]; exact g2) hn (by omega) (fun i hi => by rw [t3]; exact p2 i hi) o ho
    cases o with
    | inl v =>
      obtain ⟨z1, z2, z3⟩ := (show _ ∧ _ ∧ _ from q)
      exact (show ∃ k', _ from ⟨p + 1, by omega, z1, z2, fun j h1 h2 => by rw [z3]; exact (t2 j h1 h2).trans (rt j h1 h2)⟩)
    | inr v => exact (show False from q).elim
  rw [if_neg (fun q => hkn ((cn_lt (by omega) (by omega)).mp q)), cn_nat (n := k) (by omega)]
  have fin : ∀ y : Int64, y = dN (b.1 89) m 12 0 k → pk (if cn k < 0 ∨ 13 ≤ k then none else some (Sum.inl (cn k + ci 1, ((s.1, muL s.2 98 k y) : mG)))) (se (fun v : Int32 × mG => ∃ k, k ≤ n + 1 ∧ v.1 = cn k ∧ (∀ i, i < k → v.2.2 98 i = dN (b.1 89) m 12 0 i) ∧ ∀ j, j ≠ 96 → j ≠ 97 → v.2.1 j = b.1 j) (fun t : mG => (∀ i, i ≤ n → t.2 98 i = dN (b.1 89) m 12 n i) ∧ ∀ j, j ≠ 96 → j ≠ 97 → t.1 j = b.1 j)) := fun y hy => by
    refine pk_nn (pk_some (show ∃ k', _ from ⟨k + 1, by omega, cnu (by omega), fun i hi => ?_, r⟩))
    show muL s.2 98 k y 98 i = _
    by_cases f : i = k
    · rw [f, muL_same]; exact hy
    · rw [muL_cell (Or.inr f)]
      exact q2 i (by omega)
  by_cases k0 : k = 0
  · rw [if_pos (show cn k = 0 by rw [k0]; rfl)]
    exact fin (cl 1000000) (by rw [dN_0, if_pos k0])
  · rw [if_neg (show ¬ cn k = 0 from cn_ne0 (by omega) k0)]
    exact fin (cz 0) (by rw [dN_0, if_neg k0])
end
end
/-! 5zq4.many -/
section
noncomputable section
/-! HOW MANY -/
def Sb (M : Int) (x : Int32) (y : Int64) : Prop := y = x.toInt64 ∧ 0 ≤ x.toInt ∧ x.toInt ≤ M
theorem Sb_add {M N : Int} {x y : Int32} {u v : Int64} (h : Sb M x u) (k : Sb N y v) (r : M + N < 2147483648) : Sb (M + N) (x + y) (u + v) := by
  obtain ⟨h0, h1, h2⟩ := h
  obtain ⟨k0, k1, k2⟩ := k
  have c0 : 0 ≤ x.toInt + y.toInt ∧ x.toInt + y.toInt ≤ M + N := ⟨by omega, by omega⟩
  have c1 : -2147483648 ≤ x.toInt + y.toInt ∧ x.toInt + y.toInt < 2147483648 := ⟨by omega, by omega⟩
  have c2 : -9223372036854775808 ≤ x.toInt + y.toInt ∧ x.toInt + y.toInt < 9223372036854775808 := ⟨by omega, by omega⟩
  have e : (x + y).toInt = x.toInt + y.toInt := r_add rfl rfl c1.1 c1.2
  have f : (u + v).toInt = x.toInt + y.toInt := l_add (by rw [h0, Int32.toInt_toInt64]) (by rw [k0, Int32.toInt_toInt64]) c2.1 c2.2
  refine (show _ ∧ _ ∧ _ from ⟨Int64.toInt_inj.mp (f.trans ((Int32.toInt_toInt64 _).trans e).symm), ?_, ?_⟩)
  · rw [e]; exact c0.1
  · rw [e]; exact c0.2
theorem Sb_0 : Sb ((0 : Nat) * 1000000) (ci 0) (cz 0) := (show _ ∧ _ ∧ _ from ⟨by decide, by decide, by decide⟩)
theorem i_div {X : Int} (h : 0 ≤ X) (k : X < 2147483648) : -2147483648 ≤ X / 1000000 ∧ X / 1000000 < 2147483648 := ⟨by omega, by omega⟩
theorem q32 {z : Int64} {X : Int} (e : z.toInt = X) (h : -2147483648 ≤ X ∧ X < 2147483648) : z.toInt32.toInt = X := by
  rw [Int64.toInt_toInt32, e]
  exact Int.bmod_eq_of_le (by omega) (by omega)
theorem Sb_div {M : Int} {x : Int32} {u : Int64} (h : Sb M x u) (r : M < 2147483648) : x / ci 1000000 = (u / cl 1000000).toInt32 := by
  obtain ⟨h0, h1, h2⟩ := h
  have b := i_div h1 (by omega)
  have e : (x / ci 1000000).toInt = x.toInt / 1000000 := t_div rfl (by decide : (ci 1000000).toInt = 1000000) h1 (by decide)
  have f : (u / cl 1000000).toInt = x.toInt / 1000000 := l_div (by rw [h0, Int32.toInt_toInt64]) (by decide : (cl 1000000).toInt = 1000000) h1 (by decide) (Int.lt_of_le_of_lt h2 (Int.lt_trans r (by decide)))
  exact Int32.toInt_inj.mp (e.trans (q32 f b).symm)
def sN (w : Nat → Int32) (m : Nat) : Nat → Int64
  | 0 => cz 0
  | k + 1 => sN w m k + sureN w m k
theorem V_sumC {a b : mG} {n nc m : Nat} (hI : IM b) (K : HK (b.1 89) n nc a) (h3 : a.1 10 3 = cn m) (hm : m ≤ 6) : pk (F_X0_sumOfSure a) (fun τ => τ.1 = (sN (b.1 89) m n / cl 1000000).toInt32) := by
  have hn := K.2.2.1
  unfold F_X0_sumOfSure
  refine pk_b1 (V_weigh hI K h3 hm) (fun u qu => ?_)
  obtain ⟨u1, u2⟩ := qu
  have Ku : HK (b.1 89) n nc u := HK_low K (fun j h1 h2 => u2 j (by omega) (by omega) (by omega) (by omega))
  unfold F_X0_sumOfSure_L8
  refine pk_whl (fun v => ∃ k : Nat, k ≤ n ∧ v.2.1 = cn k ∧ Sb (k * 1000000) v.1 (sN (b.1 89) m k) ∧ v.2.2 = u) ⟨0, Nat.zero_le _, rfl, Sb_0, rfl⟩ (fun v hv => ?_)
  obtain ⟨x1, x2, s⟩ := v
  obtain ⟨k, hk, q1o, q2o, q3o⟩ := hv
  have q1 : x2 = cn k := q1o
  have q2 : Sb (k * 1000000) x1 (sN (b.1 89) m k) := q2o
  have q3 : s = u := q3o
  unfold F_X0_sumOfSure_B8
  dsimp only
  rw [q1, q3, Ku.2.1]
  by_cases hkn : n ≤ k
  · have ek : k = n := by omega
    rw [if_pos ((cn_le (by omega) (by omega)).mpr hkn)]
    rw [ek] at q2
    exact pk_some (show x1 / ci 1000000 = _ from Sb_div q2 (by omega))
  rw [if_neg (fun q => hkn ((cn_le (by omega) (by omega)).mp q)), V_cellJ sh76 (by omega) (by decide), b1_some]
  have q4 : Sb 1000000 (u.1 76 k) (sureN (b.1 89) m k) := u1 k (by omega)
  have q5 := Sb_add q2 q4 (by omega)
  rw [show (k : Int) * 1000000 + 1000000 = ((k + 1 : Nat) : Int) * 1000000 by omega] at q5
  exact pk_some (show ∃ k' : Nat, _ from ⟨k + 1, by omega, cnu (by omega), q5, rfl⟩)
/-- the likeliest -/
def lkN (f : Nat → Int64) : Nat → Nat
  | 0 => 0
  | i + 1 => if (f (i + 1)).toInt ≤ (f (lkN f i)).toInt then lkN f i else i + 1
theorem lkN_s {f : Nat → Int64} {i : Nat} : lkN f (i + 1) = if (f (i + 1)).toInt ≤ (f (lkN f i)).toInt then lkN f i else i + 1 := rfl
theorem lkN_b {f : Nat → Int64} : ∀ i, lkN f i ≤ i := by
  intro i
  induction i with
  | zero => exact Nat.le_refl _
  | succ i ih =>
    rw [lkN_s]
    by_cases h : (f (i + 1)).toInt ≤ (f (lkN f i)).toInt
    · rw [if_pos h]; omega
    · rw [if_neg h]; omega
theorem V_likeC {a b : mG} {n nc m : Nat} {x : Int32} (hI : IM b) (K : HK (b.1 89) n nc a) (h3 : a.1 10 3 = cn m) (hw : b.1 89 115 = cn m) (hm : m ≤ 6) : pk (F_X0_likeliest x a) (fun τ => (x = 0 → τ.1 = cn (lkN (dN (b.1 89) m 12 n) n)) ∧ (¬ x = 0 → Su τ.1 (dN (b.1 89) m 12 n (lkN (dN (b.1 89) m 12 n) n)))) := by
  have hn := K.2.2.1
  unfold F_X0_likeliest
  refine pk_b1 (V_countC (sk := 12) hI K h3 hw hm (fun k hk => ⟨fun e => absurd e (cn_ne1 (by omega)), fun e => by omega⟩)) (fun u qu => ?_)
  obtain ⟨u1, u0, u2⟩ := qu
  have Ku : HK (b.1 89) n nc u := HK_low K (fun j h1 h2 => u2 j (by omega) (by omega) (by omega) (by omega) (by omega))
  unfold F_X0_likeliest_L9
  refine pk_whl (fun v => v.1 = x ∧ ∃ k, k ≤ n ∧ v.2.1 = cn (lkN (dN (b.1 89) m 12 n) k) ∧ v.2.2.1 = cn (k + 1) ∧ v.2.2.2 = u) ⟨rfl, 0, Nat.zero_le _, rfl, rfl, rfl⟩ (fun v hv => ?_)
  obtain ⟨x1, x2, x3, s⟩ := v
  obtain ⟨q0o, k, hk, q1o, q2o, q3o⟩ := hv
  have q0 : x1 = x := q0o
  have q1 : x2 = cn (lkN (dN (b.1 89) m 12 n) k) := q1o
  have q2 : x3 = cn (k + 1) := q2o
  have q3 : s = u := q3o
  have bb := lkN_b (f := dN (b.1 89) m 12 n) k
  unfold F_X0_likeliest_B9 F_X0_likeliest_47
  dsimp only
  rw [q0, q1, q2, q3, Ku.2.1]
  by_cases hkn : n < k + 1
  · have ek : k = n := by omega
    rw [if_pos ((cn_lt (by omega) (by omega)).mpr hkn)]
    by_cases hx : x = 0
    · rw [if_pos hx]
      exact pk_some (show (_ → _) ∧ (_ → _) from ⟨fun _ => by rw [ek], fun q => absurd hx q⟩)
    · rw [if_neg hx, V_cellJ sh75 (by omega) (by decide), b1_some]
      have q := u1 (lkN (dN (b.1 89) m 12 n) k) (by omega)
      rw [ek] at q ⊢
      exact pk_some (show (_ → _) ∧ (_ → _) from ⟨fun q => absurd q hx, fun _ => q⟩)
  rw [if_neg (fun q => hkn ((cn_lt (by omega) (by omega)).mp q)), V_cellJ (j := 75) (k := k + 1) sh75 (by omega) (by decide), b1_some, V_cellJ (j := 75) (k := lkN (dN (b.1 89) m 12 n) k) sh75 (by omega) (by decide), b1_some]
  have s1 := u1 (k + 1) (by omega)
  have s2 := u1 (lkN (dN (b.1 89) m 12 n) k) (by omega)
  by_cases hl : (dN (b.1 89) m 12 n (k + 1)).toInt ≤ (dN (b.1 89) m 12 n (lkN (dN (b.1 89) m 12 n) k)).toInt
  · rw [if_pos (Int32.le_iff_toInt_le.mpr (by rw [← Su_t s1, ← Su_t s2]; exact hl))]
    exact pk_some (show _ ∧ ∃ k', _ from ⟨rfl, k + 1, by omega, by rw [lkN_s, if_pos hl], cnu (by omega), rfl⟩)
  · rw [if_neg (fun q => hl (by rw [Su_t s1, Su_t s2]; exact Int32.le_iff_toInt_le.mp q))]
    exact pk_some (show _ ∧ ∃ k', _ from ⟨rfl, k + 1, by omega, by rw [lkN_s, if_neg hl], cnu (by omega), rfl⟩)
theorem V_likeR {b t : mG} {n m : Nat} {x : Int32} (g2 : t.1 89 112 = cn n) (hn : n ≤ 12) (ht : ∀ i, i ≤ n → t.2 98 i = dN (b.1 89) m 12 n i) : pk (F_X12_many_L64 x (ci 0) (ci 1) t) (fun τ => (x = ci 1 → τ.1 = cn (lkN (dN (b.1 89) m 12 n) n)) ∧ (¬ x = ci 1 → τ.1 = (dN (b.1 89) m 12 n (lkN (dN (b.1 89) m 12 n) n)).toInt32)) := by
  unfold F_X12_many_L64
  refine pk_whl (fun v => v.1 = x ∧ ∃ k, k ≤ n ∧ v.2.1 = cn (lkN (dN (b.1 89) m 12 n) k) ∧ v.2.2.1 = cn (k + 1) ∧ v.2.2.2 = t) ⟨rfl, 0, Nat.zero_le _, rfl, rfl, rfl⟩ (fun v hv => ?_)
  obtain ⟨x1, x4, x5, s⟩ := v
  obtain ⟨q0o, k, hk, q1o, q2o, q3o⟩ := hv
  have q0 : x1 = x := q0o
  have q1 : x4 = cn (lkN (dN (b.1 89) m 12 n) k) := q1o
  have q2 : x5 = cn (k + 1) := q2o
  have q3 : s = t := q3o
  have bb := lkN_b (f := dN (b.1 89) m 12 n) k
  unfold F_X12_many_B64 F_X12_many_98
  dsimp only
  rw [q0, q1, q2, q3, g2, cn_nat (n := lkN (dN (b.1 89) m 12 n) k) (by omega), ht _ (show lkN (dN (b.1 89) m 12 n) k ≤ n by omega)]
  by_cases hkn : n < k + 1
  · have ek : k = n := by omega
    rw [if_pos ((cn_lt (by omega) (by omega)).mpr hkn)]
    by_cases hx : x = ci 1
    · rw [if_pos hx]
      exact pk_some (show (_ → _) ∧ (_ → _) from ⟨fun _ => by rw [ek], fun q => absurd hx q⟩)
    · rw [if_neg hx]
      refine pk_nn ?_
      rw [ek]
      exact pk_some (show (_ → _) ∧ (_ → _) from ⟨fun q => absurd q hx, fun _ => rfl⟩)
  rw [if_neg (fun q => hkn ((cn_lt (by omega) (by omega)).mp q)), cn_nat (n := k + 1) (by omega), ht (k + 1) (by omega)]
  refine pk_nn (pk_nn ?_)
  by_cases hl : (dN (b.1 89) m 12 n (k + 1)).toInt ≤ (dN (b.1 89) m 12 n (lkN (dN (b.1 89) m 12 n) k)).toInt
  · rw [if_pos ((lg_cmp_le _ _).mpr (Int64.le_iff_toInt_le.mpr hl))]
    exact pk_some (show _ ∧ ∃ k', _ from ⟨rfl, k + 1, by omega, by rw [lkN_s, if_pos hl], cnu (by omega), rfl⟩)
  · rw [if_neg (fun q => hl (Int64.le_iff_toInt_le.mp ((lg_cmp_le _ _).mp q)))]
    exact pk_some (show _ ∧ ∃ k', _ from ⟨rfl, k + 1, by omega, by rw [lkN_s, if_neg hl], cnu (by omega), rfl⟩)
/-- the reference, all of it -/
def MnQ (w : Nat → Int32) (m n : Nat) (x v : Int32) : Prop := (x = 0 → v = (sN w m n / cl 1000000).toInt32) ∧ (x = ci 1 → v = cn (lkN (dN w m 12 n) n)) ∧ (¬ x = 0 → ¬ x = ci 1 → v = (dN w m 12 n (lkN (dN w m 12 n) n)).toInt32)
theorem V_manyR {b : mG} {n nc m : Nat} {x : Int32} (L : LTy nc (b.1 89)) (g2 : b.1 89 112 = cn n) (hn : n ≤ 12) (hw : b.1 89 115 = cn m) (hm : m ≤ 6) : pk (F_X12_many_L16 x (cz 0) (ci 0) b) (fun τ => MnQ (b.1 89) m n x τ.1) := by
  unfold F_X12_many_L16
  refine pk_whl (fun v => v.1 = x ∧ ∃ k, k ≤ n ∧ v.2.1 = sN (b.1 89) m k ∧ v.2.2.1 = cn k ∧ ∀ j, j ≠ 96 → j ≠ 97 → v.2.2.2.1 j = b.1 j) ⟨rfl, 0, Nat.zero_le _, rfl, rfl, fun _ _ _ => rfl⟩ (fun v hv => ?_)
  obtain ⟨x1, x2, x4, s⟩ := v
  obtain ⟨q0o, k, hk, q1o, q2o, ro⟩ := hv
  have q0 : x1 = x := q0o
  have q1 : x2 = sN (b.1 89) m k := q1o
  have q2 : x4 = cn k := q2o
  have r : ∀ j, j ≠ 96 → j ≠ 97 → s.1 j = b.1 j := ro
  have e89 : s.1 89 = b.1 89 := r 89 (by decide) (by decide)
  unfold F_X12_many_B16
  dsimp only
  rw [q0, q1, q2, e89, g2]
  by_cases hkn : n ≤ k
  · have ek : k = n := by omega
    rw [if_pos ((cn_le (by omega) (by omega)).mpr hkn)]
    by_cases hx : x = 0
    · rw [if_pos hx]
      exact pk_some (show (_ → _) ∧ (_ → _) ∧ (_ → _ → _) from ⟨fun _ => by rw [ek], fun q => absurd (hx.symm.trans q) (by decide), fun q => absurd hx q⟩)
    · rw [if_neg hx]
      refine pk_b1 (V_laysC L g2 hn hw hm r) (fun t qt => ?_)
      obtain ⟨t1, t2⟩ := qt
      refine pk_b1r (fun o ho => ?_)
      have q := V_likeR (b := b) (t := t) (n := n) (m := m) (x := x) (by rw [t2 89 (by decide) (by decide)]; exact g2) hn t1 o ho
      exact (show (_ → _) ∧ (_ → _) ∧ (_ → _ → _) from ⟨fun z => absurd z hx, q.1, fun _ z => q.2 z⟩)
  rw [if_neg (fun q => hkn ((cn_le (by omega) (by omega)).mp q))]
  refine pk_b2 (V_sureS L hn (by omega : k < n) hw hm e89) (fun v9 s8 qt => ?_)
  obtain ⟨t1o, t2o, _⟩ := qt
  have t1 : v9 = sureN (b.1 89) m k := t1o
  have t2 : ∀ j, j ≠ 96 → j ≠ 97 → s8.1 j = s.1 j := t2o
  rw [t1]
  exact pk_some (show _ ∧ ∃ k', _ from ⟨rfl, k + 1, by omega, rfl, cnu (by omega), fun j h1 h2 => (t2 j h1 h2).trans (r j h1 h2)⟩)
theorem R_many {a b : mG} {x : Int32} (hI : IM b) (h : SIM a b) : rel (F_X11_many x a) (F_X12_many x b) (fun τ υ => τ.1 = υ.1) := by
  obtain ⟨n, nc, m, K, g2, V, hm, h3, hw⟩ := SIM_S h
  have hn := K.2.2.1
  unfold F_X11_many F_X12_many
  rw [F_isIn, b1_some]
  have R := V_manyR (x := x) K.2.2.2.2 g2 hn hw hm
  by_cases hx : wi x (ci 0) (ci 2) = 0
  · have ny : ∀ c : Nat, c ≤ 2 → ¬ x = cn c := fun c hc e => by
      rw [e] at hx
      have : ∀ c, c ≤ 2 → ¬ wi (cn c) (ci 0) (ci 2) = 0 := by decide
      exact this c hc hx
    rw [if_pos hx, if_neg (show ¬ x = ci 0 from ny 0 (by omega)), if_neg (show ¬ x = ci 1 from ny 1 (by omega)), if_neg (show ¬ x = ci 2 from ny 2 (by omega))]
    exact rel_some rfl
  · obtain ⟨c, hc, ey⟩ := wi_cn (l := 2) (by omega) hx
    rw [if_neg hx]
    rcases (show c = 0 ∨ c = 1 ∨ c = 2 by omega) with e | e | e <;> rw [e] at ey
    · rw [if_pos (show x = ci 0 from ey)]
      refine rel_l2 (V_sumC hI K h3 hm) (fun v s qo => ?_)
      have q : v = (sN (b.1 89) m n / cl 1000000).toInt32 := qo
      exact rel_sp R (fun v' qv => show v = v'.1 from q.trans (qv.1 (ey.trans (by decide))).symm)
    · rw [if_neg (show ¬ x = ci 0 by rw [ey]; decide), if_pos (show x = ci 1 from ey)]
      refine rel_l2 (V_likeC (x := ci 0) hI K h3 hw hm) (fun v s qo => ?_)
      have q : v = cn (lkN (dN (b.1 89) m 12 n) n) := qo.1 (by decide)
      exact rel_sp R (fun v' qv => show v = v'.1 from q.trans (qv.2.1 ey).symm)
    · rw [if_neg (show ¬ x = ci 0 by rw [ey]; decide), if_neg (show ¬ x = ci 1 by rw [ey]; decide), if_pos (show x = ci 2 from ey)]
      refine rel_l2 (V_likeC (x := ci 1) hI K h3 hw hm) (fun v s qo => ?_)
      have q : Su v (dN (b.1 89) m 12 n (lkN (dN (b.1 89) m 12 n) n)) := qo.2 (by decide)
      exact rel_sp R (fun v' qv => show v = v'.1 from (Su_32 q).symm.trans (qv.2.2 (by rw [ey]; decide) (by rw [ey]; decide)).symm)
end
end
/-! 5zq5.others -/
section
noncomputable section
/-! ONE AMONG HOW MANY -/
/-- the reference's row stands one place further -/
def oN (w : Nat → Int32) (m g k i : Nat) : Int64 := if i = 0 then cz 0 else dN w m g k (i - 1)
theorem oN_s {b : mG} {m g k i : Nat} (hI : IM b) (hw : b.1 89 115 = cn m) (hm : m ≤ 6) (hk : k ≠ g) : (oN (b.1 89) m g k (i + 1) * (cl 1000000 - sureN (b.1 89) m k)) / cl 1000000 + (oN (b.1 89) m g k i * sureN (b.1 89) m k) / cl 1000000 = oN (b.1 89) m g (k + 1) (i + 1) := by
  unfold oN
  rw [if_neg (by omega : ¬ i + 1 = 0), if_neg (by omega : ¬ i + 1 = 0), show i + 1 - 1 = i by omega, dN_s hk]
  by_cases e : i = 0
  · rw [if_pos e, if_pos e, sh_z (sureN_r hI hw hm)]
  · rw [if_neg e, if_neg e]
theorem V_oneO {b s : mG} {m g k : Nat} (hI : IM b) (hw : b.1 89 115 = cn m) (hm : m ≤ 6) (hk : k < 12) (hkg : k ≠ g) (h : ∀ i, i < 14 → s.2 99 i = oN (b.1 89) m g k i) : pk (F_X12_laysOthers_L63 (cn g) (cn k) (sureN (b.1 89) m k) (c8 13) s) (se (fun τ : Int32 × Int32 × mG => τ.1 = cn g ∧ τ.2.1 = cn (k + 1) ∧ (∀ i, i < 14 → τ.2.2.2 99 i = oN (b.1 89) m g (k + 1) i) ∧ τ.2.2.1 = s.1) (fun _ : mG => False)) := by
  unfold F_X12_laysOthers_L63
  refine pk_whl (fun v => v.1 = cn g ∧ v.2.1 = cn k ∧ v.2.2.1 = sureN (b.1 89) m k ∧ ∃ p, p ≤ 13 ∧ v.2.2.2.1 = cn p ∧ (∀ i, i < 14 → v.2.2.2.2.2 99 i = oN (b.1 89) m g (if p + 1 ≤ i then k + 1 else k) i) ∧ v.2.2.2.2.1 = s.1) ⟨rfl, rfl, rfl, 13, by omega, (show c8 13 = cn 13 by decide), fun i hi => by rw [if_neg (by omega)]; exact h i hi, rfl⟩ (fun v hv => ?_)
  obtain ⟨x1, x2, x3, x5, t⟩ := v
  obtain ⟨q0o, q1o, q2o, p, hp, q3o, q4o, ro⟩ := hv
  have q0 : x1 = cn g := q0o
  have q1 : x2 = cn k := q1o
  have q2 : x3 = sureN (b.1 89) m k := q2o
  have q3 : x5 = cn p := q3o
  have q4 : ∀ i, i < 14 → t.2 99 i = oN (b.1 89) m g (if p + 1 ≤ i then k + 1 else k) i := q4o
  have r : t.1 = s.1 := ro
  unfold F_X12_laysOthers_B63 F_X12_laysOthers_115
  dsimp only
  rw [q0, q1, q2, q3]
  by_cases hp0 : p = 0
  · subst hp0
    rw [if_pos (show cn 0 < ci 1 by decide)]
    refine pk_b1r (pk_some (show _ ∧ _ ∧ _ ∧ _ from ⟨rfl, cnu (by omega), fun i hi => ?_, r⟩))
    show t.2 99 i = _
    rw [q4 i hi]
    by_cases e : i = 0
    · rw [if_neg (by omega), e]; rfl
    · rw [if_pos (by omega)]
  obtain ⟨d, rfl⟩ : ∃ d, p = d + 1 := ⟨p - 1, by omega⟩
  have S1 := q4 (d + 1) (by omega)
  have S2 := q4 d (by omega)
  rw [if_neg (by omega)] at S1 S2
  rw [if_neg (show ¬ cn (d + 1) < ci 1 from fun q => by have := (cn_lt (b := 1) (by omega) (by omega)).mp q; omega), show cn (d + 1) - ci 1 = cn d from (cn_sub (b := 1) (by omega) (by omega)), cn_nat (n := d + 1) (by omega), cn_nat (n := d) (by omega), S1, S2, oN_s hI hw hm hkg]
  refine pk_nn (pk_nn (pk_nn (pk_some (show _ ∧ _ ∧ _ ∧ ∃ p', _ from ⟨rfl, rfl, rfl, d, by omega, ?_, fun i hi => ?_, r⟩))))
  · show cn (d + 1) + ci (-1) = cn d
    rw [← cnu (by omega), Int32.add_assoc]
    exact (congrArg (cn d + ·) (by decide : ci 1 + ci (-1) = 0)).trans (Int32.add_zero _)
  · show muL t.2 99 (d + 1) _ 99 i = _
    by_cases f : i = d + 1
    · rw [f, muL_same, if_pos (Nat.le_refl _)]
    · rw [muL_cell (Or.inr f)]
      have := q4 i hi
      by_cases e : d + 1 + 1 ≤ i
      · rw [if_pos e] at this
        rw [if_pos (by omega)]; exact this
      · rw [if_neg e] at this
        rw [if_neg (by omega)]; exact this
theorem V_laysO {b : mG} {n nc m g : Nat} (hI : IM b) (L : LTy nc (b.1 89)) (g2 : b.1 89 112 = cn n) (hn : n ≤ 12) (hw : b.1 89 115 = cn m) (hm : m ≤ 6) (hg : g < n) : pk (F_X12_laysOthers (cn g) b) (fun t => (∀ i, i < 14 → t.2 99 i = oN (b.1 89) m g n i) ∧ ∀ j, j ≠ 96 → j ≠ 97 → t.1 j = b.1 j) := by
  unfold F_X12_laysOthers F_X12_laysOthers_L2
  refine pk_whl (fun v => v.1 = cn g ∧ ∃ k, k ≤ 14 ∧ v.2.1 = cn k ∧ (∀ i, i < k → v.2.2.2 99 i = oN (b.1 89) m g 0 i) ∧ ∀ j, j ≠ 96 → j ≠ 97 → v.2.2.1 j = b.1 j) ⟨rfl, 0, Nat.zero_le _, rfl, fun i hi => absurd hi (by omega), fun _ _ _ => rfl⟩ (fun v hv => ?_)
  obtain ⟨x1, x2, s⟩ := v
  obtain ⟨q0o, k, hk, q1o, q2o, ro⟩ := hv
  have q0 : x1 = cn g := q0o
  have q1 : x2 = cn k := q1o
  have q2 : ∀ i, i < k → s.2 99 i = oN (b.1 89) m g 0 i := q2o
  have r : ∀ j, j ≠ 96 → j ≠ 97 → s.1 j = b.1 j := ro
  unfold F_X12_laysOthers_B2 F_X12_laysOthers_25
  dsimp only
  rw [q0, q1]
  by_cases hkn : 14 ≤ k
  · rw [if_pos (show c8 14 ≤ cn k from (cn_le (a := 14) (by omega) (by omega)).mpr hkn)]
    refine pk_b1r ?_
    unfold F_X12_laysOthers_L34
    refine pk_whl (fun v => v.1 = cn g ∧ ∃ k, k ≤ n ∧ v.2.1 = cn k ∧ (∀ i, i < 14 → v.2.2.2 99 i = oN (b.1 89) m g k i) ∧ ∀ j, j ≠ 96 → j ≠ 97 → v.2.2.1 j = b.1 j) ⟨rfl, 0, Nat.zero_le _, rfl, fun i hi => q2 i (by omega), r⟩ (fun v hv => ?_)
    obtain ⟨y1, y2, t⟩ := v
    obtain ⟨p0o, p, hp, p1o, p2o, rto⟩ := hv
    have p0 : y1 = cn g := p0o
    have p1 : y2 = cn p := p1o
    have p2 : ∀ i, i < 14 → t.2 99 i = oN (b.1 89) m g p i := p2o
    have rt : ∀ j, j ≠ 96 → j ≠ 97 → t.1 j = b.1 j := rto
    have e89 : t.1 89 = b.1 89 := rt 89 (by decide) (by decide)
    unfold F_X12_laysOthers_B34 F_X12_laysOthers_115
    dsimp only
    rw [p0, p1, e89, g2]
    by_cases hpn : n ≤ p
    · have ep : p = n := by omega
      rw [if_pos ((cn_le (by omega) (by omega)).mpr hpn)]
      rw [ep] at p2
      exact pk_some (show (∀ i, i < 14 → t.2 99 i = _) ∧ _ from ⟨p2, rt⟩)
    rw [if_neg (fun q => hpn ((cn_le (by omega) (by omega)).mp q))]
    by_cases hpg : p = g
    · rw [if_pos (show cn p = cn g by rw [hpg])]
      refine pk_some (show _ ∧ ∃ k', _ from ⟨rfl, p + 1, by omega, cnu (by omega), fun i hi => ?_, rt⟩)
      show t.2 99 i = _
      rw [p2 i hi]
      unfold oN
      by_cases e : i = 0
      · rw [if_pos e, if_pos e]
      · rw [if_neg e, if_neg e, dN_k hpg]
    rw [if_neg (fun q => hpg ((cn_inj (by omega) (by omega)).mp q))]
    refine pk_b2 (V_sureS L hn (by omega : p < n) hw hm e89) (fun v5 s4 qt => ?_)
    obtain ⟨t1o, t2o, t3o⟩ := qt
    have t1 : v5 = sureN (b.1 89) m p := t1o
    have t2 : ∀ j, j ≠ 96 → j ≠ 97 → s4.1 j = t.1 j := t2o
    have t3 : s4.2 = t.2 := t3o
    rw [t1]
    intro o ho
    have q := V_oneO (b := b) (s := s4) (m := m) (g := g) (k := p) hI hw hm (by omega) hpg (fun i hi => by rw [t3]; exact p2 i hi) o ho
    cases o with
    | inl v =>
      obtain ⟨z0, z1, z2, z3⟩ := (show _ ∧ _ ∧ _ ∧ _ from q)
      exact (show _ ∧ ∃ k', _ from ⟨z0, p + 1, by omega, z1, z2, fun j h1 h2 => by rw [z3]; exact (t2 j h1 h2).trans (rt j h1 h2)⟩)
    | inr v => exact (show False from q).elim
  rw [if_neg (show ¬ c8 14 ≤ cn k from fun q => hkn ((cn_le (a := 14) (by omega) (by omega)).mp q)), cn_nat (n := k) (by omega)]
  have fin : ∀ y : Int64, y = oN (b.1 89) m g 0 k → pk (if cn k < 0 ∨ 14 ≤ k then none else some (Sum.inl (cn g, cn k + ci 1, ((s.1, muL s.2 99 k y) : mG)))) (se (fun v : Int32 × Int32 × mG => v.1 = cn g ∧ ∃ k, k ≤ 14 ∧ v.2.1 = cn k ∧ (∀ i, i < k → v.2.2.2 99 i = oN (b.1 89) m g 0 i) ∧ ∀ j, j ≠ 96 → j ≠ 97 → v.2.2.1 j = b.1 j) (fun t : mG => (∀ i, i < 14 → t.2 99 i = oN (b.1 89) m g n i) ∧ ∀ j, j ≠ 96 → j ≠ 97 → t.1 j = b.1 j)) := fun y hy => by
    refine pk_nn (pk_some (show _ ∧ ∃ k', _ from ⟨rfl, k + 1, by omega, cnu (by omega), fun i hi => ?_, r⟩))
    show muL s.2 99 k y 99 i = _
    by_cases f : i = k
    · rw [f, muL_same]; exact hy
    · rw [muL_cell (Or.inr f)]
      exact q2 i (by omega)
  by_cases k0 : k = 1
  · rw [if_pos (show cn k = ci 1 by rw [k0]; rfl)]
    exact fin (cl 1000000) (by unfold oN; rw [k0, if_neg (by decide), dN_0, if_pos (by decide)])
  · rw [if_neg (show ¬ cn k = ci 1 from fun q => k0 ((cn_inj (b := 1) (by omega) (by omega)).mp q))]
    refine fin (cz 0) ?_
    unfold oN
    by_cases e : k = 0
    · rw [if_pos e]
    · rw [if_neg e, dN_0, if_neg (by omega)]
theorem R_counted {a b : mG} {x y : Int32} (hI : IM b) (h : SIM a b) : rel (F_X11_counted x y a) (F_X12_counted x y b) (fun τ υ => τ.1 = υ.1) := by
  obtain ⟨n, nc, m, K, g2, V, hm, h3, hw⟩ := SIM_S h
  have hn := K.2.2.1
  unfold F_X11_counted F_X12_counted F_X11_counted_21 F_X12_counted_18
  rw [V_isGuest, V_isGuestR g2 hn, b1_some, b1_some, show a.1 (1 + 1) 3 = cn n from K.2.1]
  refine rel_ifs Iff.rfl (fun _ => rel_some rfl) (fun hx => ?_)
  obtain ⟨g, hg, ex⟩ := ig_cn (by omega) hx
  rw [V_within, F_isIn, b1_some, b1_some]
  refine rel_ifs Iff.rfl (fun _ => rel_some rfl) (fun hy => ?_)
  obtain ⟨c, hc, ey⟩ := wi_cn (l := 12) (by omega) hy
  rw [ex, ey]
  refine rel_l2 (x := F_X0_amongCounted (cn g) (cn c) a) (P := fun τ => τ.1 = (if (lg_cmp (sureN (b.1 89) m g * oN (b.1 89) m g n c + (cl 1000000 - sureN (b.1 89) m g) * oN (b.1 89) m g n (c + 1)) (cz 0)) = 0 then ci (-1) else ((cl 1000000 * (sureN (b.1 89) m g * oN (b.1 89) m g n c)) / (sureN (b.1 89) m g * oN (b.1 89) m g n c + (cl 1000000 - sureN (b.1 89) m g) * oN (b.1 89) m g n (c + 1))).toInt32)) ?_ (fun v s q => ?_)
  · unfold F_X0_amongCounted
    refine pk_b1 (V_countC (sk := g) hI K h3 hw hm (fun k hk => cn_inj (by omega) (by omega))) (fun u qu => ?_)
    obtain ⟨u1, u0, u2⟩ := qu
    rw [V_cellJ (j := 76) (k := g) sh76 (by omega) (by decide), b1_some]
    have s0 := (u0 g hg).1
    have s1 : (u.1 75 c).toInt64 = oN (b.1 89) m g n (c + 1) := by
      unfold oN
      rw [if_neg (by omega), show c + 1 - 1 = c by omega]
      exact (u1 c (by omega)).1.symm
    have fin : ∀ v6 : Int32, v6.toInt64 = oN (b.1 89) m g n c → pk (b1 (F_X11_cell 75 u (cn c)) fun v9 => if (lg_cmp ((u.1 76 g).toInt64 * v6.toInt64 + ((cl 1000000) - (u.1 76 g).toInt64) * v9.toInt64) (cz 0)) = 0 then some ((ci (-1)), u) else if ((u.1 76 g).toInt64 * v6.toInt64 + ((cl 1000000) - (u.1 76 g).toInt64) * v9.toInt64) = 0 then none else some ((((cl 1000000) * ((u.1 76 g).toInt64 * v6.toInt64)) / ((u.1 76 g).toInt64 * v6.toInt64 + ((cl 1000000) - (u.1 76 g).toInt64) * v9.toInt64)).toInt32, u)) (fun τ : Int32 × mG => τ.1 = (if (lg_cmp (sureN (b.1 89) m g * oN (b.1 89) m g n c + (cl 1000000 - sureN (b.1 89) m g) * oN (b.1 89) m g n (c + 1)) (cz 0)) = 0 then ci (-1) else ((cl 1000000 * (sureN (b.1 89) m g * oN (b.1 89) m g n c)) / (sureN (b.1 89) m g * oN (b.1 89) m g n c + (cl 1000000 - sureN (b.1 89) m g) * oN (b.1 89) m g n (c + 1))).toInt32)) := fun v6 h6 => by
      rw [V_cellJ (j := 75) (k := c) sh75 (by omega) (by decide), b1_some, h6, s1, ← s0]
      by_cases z : (lg_cmp (sureN (b.1 89) m g * oN (b.1 89) m g n c + (cl 1000000 - sureN (b.1 89) m g) * oN (b.1 89) m g n (c + 1)) (cz 0)) = 0
      · rw [if_pos z, if_pos z]
        exact pk_some rfl
      · rw [if_neg z, if_neg z]
        exact pk_nn (pk_some rfl)
    by_cases c0 : c = 0
    · rw [V_cell_neg (show cn c - ci 1 < 0 by rw [c0]; decide), b1_some]
      exact fin (ci 0) (by unfold oN; rw [if_pos c0]; decide)
    · rw [show cn c - ci 1 = cn (c - 1) from cn_sub (b := 1) (by omega) (by omega), V_cellJ (j := 75) (k := c - 1) sh75 (by omega) (by decide), b1_some]
      exact fin _ (by unfold oN; rw [if_neg c0]; exact (u1 (c - 1) (by omega)).1.symm)
  · refine rel_r1 (V_laysO hI K.2.2.2.2 g2 hn hw hm hg) (fun t qt => ?_)
    obtain ⟨t1, t2⟩ := qt
    refine rel_r2 (V_sureS K.2.2.2.2 hn hg hw hm (t2 89 (by decide) (by decide))) (fun v11 s10 qs => ?_)
    obtain ⟨z1o, _, z3o⟩ := qs
    have z1 : v11 = sureN (b.1 89) m g := z1o
    have z3 : s10.2 = t.2 := z3o
    rw [show cn c + ci 1 = cn (c + 1) from cnu (by omega), cn_nat (n := c) (by omega), cn_nat (n := c + 1) (by omega), z3, t1 c (by omega), t1 (c + 1) (by omega), z1]
    have q : v = _ := q
    refine rel_rg ?_
    dsimp only
    refine rel_rg ?_
    by_cases z : (lg_cmp (sureN (b.1 89) m g * oN (b.1 89) m g n c + (cl 1000000 - sureN (b.1 89) m g) * oN (b.1 89) m g n (c + 1)) (cz 0)) = 0
    · rw [if_pos z] at q
      rw [if_pos z]
      exact rel_some q
    · rw [if_neg z] at q
      rw [if_neg z]
      exact rel_rg (rel_some q)
end
end
/-! 5zq6.span -/
section
noncomputable section
/-! THE SHORTEST SPAN -/
def sD (f : Nat → Int64) (s : Nat) : Nat → Int
  | 0 => 0
  | l + 1 => sD f s l + (f (s + l)).toInt
theorem sD_s {f : Nat → Int64} {s l : Nat} : sD f s (l + 1) = sD f s l + (f (s + l)).toInt := rfl
theorem sD_b {f : Nat → Int64} (hf : ∀ i, 0 ≤ (f i).toInt ∧ (f i).toInt ≤ 1000000) (s : Nat) : ∀ l : Nat, 0 ≤ sD f s l ∧ sD f s l ≤ l * 1000000 := by
  intro l
  induction l with
  | zero => exact ⟨Int.le_refl _, Int.le_refl _⟩
  | succ l ih =>
    rw [sD_s]
    have h := hf (s + l)
    generalize (f (s + l)).toInt = F at h
    generalize sD f s l = S at ih
    exact ⟨by omega, by omega⟩
theorem V_chWithin {u : mG} {f : Nat → Int64} (hf : ∀ i, 0 ≤ (f i).toInt ∧ (f i).toInt ≤ 1000000) (hu : ∀ i, i < 13 → Su (u.1 75 i) (f i)) {s l : Nat} (hs : s + l ≤ 12) : pk (F_X0_chanceWithin u (cn s) (cn (s + l))) (fun v => v.toInt = sD f s (l + 1)) := by
  unfold F_X0_chanceWithin F_X0_chanceWithin_L5
  refine pk_whl (fun v => v.1 = cn (s + l) ∧ ∃ k, k ≤ l + 1 ∧ v.2.1.toInt = sD f s k ∧ v.2.2 = cn (s + k)) ⟨rfl, 0, Nat.zero_le _, (show (ci 0).toInt = 0 by decide), rfl⟩ (fun v hv => ?_)
  obtain ⟨x2, x3, x4⟩ := v
  obtain ⟨q0o, k, hk, q1o, q2o⟩ := hv
  have q0 : x2 = cn (s + l) := q0o
  have q1 : x3.toInt = sD f s k := q1o
  have q2 : x4 = cn (s + k) := q2o
  unfold F_X0_chanceWithin_B5
  dsimp only
  rw [q0, q2]
  by_cases hkl : l < k
  · have ek : k = l + 1 := by omega
    rw [if_pos ((cn_lt (by omega) (by omega)).mpr (by omega))]
    rw [ek] at q1
    exact pk_some (show x3.toInt = _ from q1)
  rw [if_neg (fun q => hkl (by have := (cn_lt (by omega) (by omega)).mp q; omega)), V_cellJ (j := 75) (k := s + k) sh75 (by omega) (by decide), b1_some]
  have b1' := (sD_b hf s k)
  have b2' := hf (s + k)
  have e2 := Su_t (hu (s + k) (by omega))
  have c : -2147483648 ≤ sD f s k + (f (s + k)).toInt ∧ sD f s k + (f (s + k)).toInt < 2147483648 := by
    generalize (f (s + k)).toInt = F at b2'
    generalize sD f s k = S at b1'
    exact ⟨by omega, by omega⟩
  exact pk_some (show _ ∧ ∃ k', _ from ⟨rfl, k + 1, by omega, r_add q1 e2.symm c.1 c.2, cnu (by omega)⟩)
/-- the best span: the shortest, then the lowest -/
def Sp (n : Nat) (f : Nat → Int64) (T : Int) (y r : Int32) : Prop := (∃ s l, s + l ≤ n ∧ T ≤ sD f s (l + 1) ∧ (∀ s' l', s' + l' ≤ n → T ≤ sD f s' (l' + 1) → l < l' ∨ (l = l' ∧ s ≤ s')) ∧ r = if y = 0 then cn s else cn (s + l)) ∨ ((∀ s' l', s' + l' ≤ n → ¬ T ≤ sD f s' (l' + 1)) ∧ r = ci (-1))
theorem Sp_u {n : Nat} {f : Nat → Int64} {T : Int} {y r r' : Int32} (h : Sp n f T y r) (k : Sp n f T y r') : r = r' := by
  rcases h with ⟨s, l, h1, h2, h3, h4⟩ | ⟨h1, h2⟩
  · rcases k with ⟨s', l', k1, k2, k3, k4⟩ | ⟨k1, k2⟩
    · have a1 := h3 s' l' k1 k2
      have a2 := k3 s l h1 h2
      have es : s = s' := by omega
      have el : l = l' := by omega
      rw [h4, k4, es, el]
    · exact absurd h2 (k1 s l h1)
  · rcases k with ⟨s', l', k1, k2, k3, k4⟩ | ⟨k1, k2⟩
    · exact absurd k2 (h1 s' l' k1)
    · rw [h2, k2]
theorem V_edgeC {a b : mG} {n nc m : Nat} {x y : Int32} (hI : IM b) (K : HK (b.1 89) n nc a) (h3 : a.1 10 3 = cn m) (hw : b.1 89 115 = cn m) (hm : m ≤ 6) (hx : 0 ≤ x.toInt ∧ x.toInt ≤ 1000) : pk (F_X0_spanEdge x y a) (fun τ => Sp n (dN (b.1 89) m 12 n) (1000 * x.toInt) y τ.1) := by
  have hn := K.2.2.1
  have hf : ∀ i, 0 ≤ (dN (b.1 89) m 12 n i).toInt ∧ (dN (b.1 89) m 12 n i).toInt ≤ 1000000 := dN_r hI hw hm n
  unfold F_X0_spanEdge
  refine pk_b1 (V_countC (sk := 12) hI K h3 hw hm (fun k hk => ⟨fun e => absurd e (cn_ne1 (by omega)), fun e => by omega⟩)) (fun u qu => ?_)
  obtain ⟨u1, u0, u2⟩ := qu
  have Ku : HK (b.1 89) n nc u := HK_low K (fun j h1 h2 => u2 j (by omega) (by omega) (by omega) (by omega) (by omega))
  generalize dN (b.1 89) m 12 n = f at hf u1 ⊢
  have eT : (x * c16 1000).toInt = 1000 * x.toInt := by
    rw [r_mul (rfl : x.toInt = _) (by decide : (c16 1000).toInt = 1000) (by omega) (by omega)]
    omega
  rw [Ku.2.1]
  unfold F_X0_spanEdge_L19
  refine pk_whl (fun v => v.1 = x ∧ v.2.1 = y ∧ v.2.2.1 = cn n ∧ ∃ k, k ≤ n + 1 ∧ v.2.2.2.1 = cn k ∧ (∀ s' l', s' + l' ≤ n → l' < k → ¬ 1000 * x.toInt ≤ sD f s' (l' + 1)) ∧ v.2.2.2.2 = u) ⟨rfl, rfl, rfl, 0, Nat.zero_le _, rfl, fun _ l' _ h => absurd h (by omega), rfl⟩ (fun v hv => ?_)
  obtain ⟨x1, x2, x3, x4, s⟩ := v
  obtain ⟨q0o, q1o, q2o, k, hk, q3o, q4o, q5o⟩ := hv
  have q0 : x1 = x := q0o
  have q1 : x2 = y := q1o
  have q2 : x3 = cn n := q2o
  have q3 : x4 = cn k := q3o
  have q4 : ∀ s' l', s' + l' ≤ n → l' < k → ¬ 1000 * x.toInt ≤ sD f s' (l' + 1) := q4o
  have q5 : s = u := q5o
  unfold F_X0_spanEdge_B19
  dsimp only
  rw [q0, q1, q2, q3, q5]
  by_cases hkn : n < k
  · rw [if_pos ((cn_lt (by omega) (by omega)).mpr hkn)]
    exact pk_some (show Sp n f (1000 * x.toInt) y (ci (-1)) from Or.inr ⟨fun s' l' h => q4 s' l' h (by omega), rfl⟩)
  rw [if_neg (fun q => hkn ((cn_lt (by omega) (by omega)).mp q))]
  unfold F_X0_spanEdge_L28
  refine pk_whl (fun v => v.1 = x ∧ v.2.1 = y ∧ v.2.2.1 = cn n ∧ v.2.2.2.1 = cn k ∧ ∃ p, p + k ≤ n + 1 ∧ v.2.2.2.2.1 = cn p ∧ (∀ s', s' < p → ¬ 1000 * x.toInt ≤ sD f s' (k + 1)) ∧ v.2.2.2.2.2 = u) ⟨rfl, rfl, rfl, rfl, 0, by omega, rfl, fun s' h => absurd h (by omega), rfl⟩ (fun v hv => ?_)
  obtain ⟨y1, y2, y3, y4, y5, t⟩ := v
  obtain ⟨p0o, p1o, p2o, p3o, p, hp, p4o, p5o, p6o⟩ := hv
  have p0 : y1 = x := p0o
  have p1 : y2 = y := p1o
  have p2 : y3 = cn n := p2o
  have p3 : y4 = cn k := p3o
  have p4 : y5 = cn p := p4o
  have p5 : ∀ s', s' < p → ¬ 1000 * x.toInt ≤ sD f s' (k + 1) := p5o
  have p6 : t = u := p6o
  unfold F_X0_spanEdge_B28
  dsimp only
  rw [p0, p1, p2, p3, p4, p6, cn_add (a := p) (b := k) (by omega)]
  by_cases hpn : n < p + k
  · rw [if_pos ((cn_lt (by omega) (by omega)).mpr hpn)]
    refine pk_some (show _ ∧ _ ∧ _ ∧ ∃ k', _ from ⟨rfl, rfl, rfl, k + 1, by omega, cnu (by omega), fun s' l' h1 h2 => ?_, rfl⟩)
    by_cases e : l' = k
    · rw [e]; exact p5 s' (by omega)
    · exact q4 s' l' h1 (by omega)
  rw [if_neg (fun q => hpn ((cn_lt (by omega) (by omega)).mp q))]
  refine pk_b1 (V_chWithin hf u1 (by omega : p + k ≤ 12)) (fun v6 h6 => ?_)
  by_cases hc : 1000 * x.toInt ≤ sD f p (k + 1)
  · have ok : Sp n f (1000 * x.toInt) y (if y = 0 then cn p else cn (p + k)) := Or.inl ⟨p, k, by omega, hc, fun s' l' h1 h2 => by
      by_cases e : l' < k
      · exact absurd h2 (q4 s' l' h1 e)
      · by_cases e2 : l' = k
        · right
          refine ⟨e2.symm, ?_⟩
          by_cases e3 : s' < p
          · rw [e2] at h2
            exact absurd h2 (p5 s' e3)
          · omega
        · left; omega, rfl⟩
    rw [if_neg (fun q => by
      have z := Int32.lt_iff_toInt_lt.mp q
      rw [eT, h6] at z
      exact absurd hc (Int.not_le.mpr z))]
    by_cases hy : y = 0
    · rw [if_pos hy] at ok ⊢
      exact pk_some (show Sp n f (1000 * x.toInt) y (cn p) from ok)
    · rw [if_neg hy] at ok ⊢
      exact pk_some (show Sp n f (1000 * x.toInt) y (cn (p + k)) from ok)
  · rw [if_pos (Int32.lt_iff_toInt_lt.mpr (by rw [eT, h6]; exact Int.not_le.mp hc))]
    refine pk_some (show _ ∧ _ ∧ _ ∧ _ ∧ ∃ p', _ from ⟨rfl, rfl, rfl, rfl, p + 1, by omega, cnu (by omega), fun s' h => ?_, rfl⟩)
    by_cases e : s' = p
    · rw [e]; exact hc
    · exact p5 s' (by omega)
theorem V_longR {t : mG} {n p : Nat} {f : Nat → Int64} {x : Int32} (hf : ∀ i, 0 ≤ (f i).toInt ∧ (f i).toInt ≤ 1000000) (g2 : t.1 89 112 = cn n) (hn : n ≤ 12) (ht : ∀ i, i ≤ n → t.2 98 i = f i) (hp : p ≤ n) (hx : 0 ≤ x.toInt ∧ x.toInt ≤ 1000) : pk (F_X12_longFrom t (cn p) (cl 1000 * x.toInt64)) (fun v => (∃ l, p + l ≤ n ∧ 1000 * x.toInt ≤ sD f p (l + 1) ∧ (∀ l', l' < l → ¬ 1000 * x.toInt ≤ sD f p (l' + 1)) ∧ v = cn (l + 1)) ∨ ((∀ l', p + l' ≤ n → ¬ 1000 * x.toInt ≤ sD f p (l' + 1)) ∧ v = ci (-1))) := by
  have eT : (cl 1000 * x.toInt64).toInt = 1000 * x.toInt := l_mul (by decide : (cl 1000).toInt = 1000) (Int32.toInt_toInt64 x) (by omega) (by omega)
  unfold F_X12_longFrom F_X12_longFrom_L6
  refine pk_whl (fun v => v.1 = cn p ∧ v.2.1 = cl 1000 * x.toInt64 ∧ ∃ l, p + l ≤ n + 1 ∧ v.2.2.1.toInt = sD f p l ∧ v.2.2.2 = cn (p + l) ∧ ∀ l', l' < l → ¬ 1000 * x.toInt ≤ sD f p (l' + 1)) ⟨rfl, rfl, 0, by omega, (show (cz 0).toInt = 0 by decide), rfl, fun l' h => absurd h (by omega)⟩ (fun v hv => ?_)
  obtain ⟨x1, x2, x4, x6⟩ := v
  obtain ⟨q0o, q1o, l, hl, q2o, q3o, q4o⟩ := hv
  have q0 : x1 = cn p := q0o
  have q1 : x2 = cl 1000 * x.toInt64 := q1o
  have q2 : x4.toInt = sD f p l := q2o
  have q3 : x6 = cn (p + l) := q3o
  have q4 : ∀ l', l' < l → ¬ 1000 * x.toInt ≤ sD f p (l' + 1) := q4o
  unfold F_X12_longFrom_B6
  dsimp only
  rw [q0, q1, q3, g2]
  by_cases hln : n < p + l
  · rw [if_pos ((cn_lt (by omega) (by omega)).mpr hln)]
    exact pk_some (show (_ ∨ _) from Or.inr ⟨fun l' h => q4 l' (by omega), rfl⟩)
  rw [if_neg (fun q => hln ((cn_lt (by omega) (by omega)).mp q)), cn_nat (n := p + l) (by omega), ht (p + l) (by omega)]
  refine pk_nn ?_
  have b1' := sD_b hf p l
  have b2' := hf (p + l)
  have c : -9223372036854775808 ≤ sD f p l + (f (p + l)).toInt ∧ sD f p l + (f (p + l)).toInt < 9223372036854775808 := by
    generalize (f (p + l)).toInt = F at b2'
    generalize sD f p l = S at b1'
    exact ⟨by omega, by omega⟩
  have e3 : (x4 + f (p + l)).toInt = sD f p (l + 1) := l_add q2 rfl c.1 c.2
  by_cases hc : 1000 * x.toInt ≤ sD f p (l + 1)
  · rw [if_neg (fun q => by
      have z := Int64.lt_iff_toInt_lt.mp ((lg_cmp_lt _ _).mp q)
      rw [eT, e3] at z
      exact absurd hc (Int.not_le.mpr z)), cn_sub (a := p + l) (b := p) (by omega) (by omega), show p + l - p = l by omega]
    exact pk_some (show (_ ∨ _) from Or.inl ⟨l, by omega, hc, q4, cnu (by omega)⟩)
  · rw [if_pos ((lg_cmp_lt _ _).mpr (Int64.lt_iff_toInt_lt.mpr (by rw [eT, e3]; exact Int.not_le.mp hc)))]
    refine pk_some (show _ ∧ _ ∧ ∃ l', _ from ⟨rfl, rfl, l + 1, by omega, e3, cnu (by omega), fun l' h => ?_⟩)
    by_cases e : l' = l
    · rw [e]; exact hc
    · exact q4 l' (by omega)
/-- the best up to here -/
def Bp (n p : Nat) (f : Nat → Int64) (T : Int) (x3 x4 : Int32) : Prop := (∃ s l, s < p ∧ s + l ≤ n ∧ T ≤ sD f s (l + 1) ∧ (∀ s' l', s' < p → s' + l' ≤ n → T ≤ sD f s' (l' + 1) → l < l' ∨ (l = l' ∧ s ≤ s')) ∧ x3 = cn (l + 1) ∧ x4 = cn s) ∨ ((∀ s' l', s' < p → s' + l' ≤ n → ¬ T ≤ sD f s' (l' + 1)) ∧ x3 = ci (-1) ∧ x4 = ci (-1))
theorem V_spanR {t : mG} {n : Nat} {f : Nat → Int64} {x y : Int32} (hf : ∀ i, 0 ≤ (f i).toInt ∧ (f i).toInt ≤ 1000000) (g2 : t.1 89 112 = cn n) (hn : n ≤ 12) (ht : ∀ i, i ≤ n → t.2 98 i = f i) (hx : 0 ≤ x.toInt ∧ x.toInt ≤ 1000) : pk (F_X12_span_L34 x y (ci (-1)) (ci (-1)) (ci 0) t) (fun τ => Sp n f (1000 * x.toInt) y τ.1) := by
  unfold F_X12_span_L34
  refine pk_whl (fun v => v.1 = x ∧ v.2.1 = y ∧ ∃ p, p ≤ n + 1 ∧ v.2.2.2.2.1 = cn p ∧ Bp n p f (1000 * x.toInt) v.2.2.1 v.2.2.2.1 ∧ v.2.2.2.2.2 = t) ⟨rfl, rfl, 0, Nat.zero_le _, rfl, Or.inr ⟨fun s' l' h => absurd h (by omega), rfl, rfl⟩, rfl⟩ (fun v hv => ?_)
  obtain ⟨x1, x2, x3, x4, x5, s⟩ := v
  obtain ⟨q0o, q1o, p, hp, q2o, q3o, q4o⟩ := hv
  have q0 : x1 = x := q0o
  have q1 : x2 = y := q1o
  have q2 : x5 = cn p := q2o
  have q3 : Bp n p f (1000 * x.toInt) x3 x4 := q3o
  have q4 : s = t := q4o
  unfold F_X12_span_B34 F_X12_span_80 F_X12_span_87 F_X12_span_103
  dsimp only
  rw [q0, q1, q2, q4, g2]
  by_cases hpn : n < p
  · rw [if_pos ((cn_lt (by omega) (by omega)).mpr hpn)]
    rcases q3 with ⟨z, l, h1, h2, h3, h4, h5, h6⟩ | ⟨h1, h2, h3⟩
    · rw [if_neg (show ¬ x4 = ci (-1) by rw [h6]; exact cn_ne1 (by omega))]
      have ok : Sp n f (1000 * x.toInt) y (if y = 0 then cn z else cn (z + l)) := Or.inl ⟨z, l, h2, h3, fun s' l' k1 k2 => h4 s' l' (by omega) k1 k2, rfl⟩
      by_cases hy : y = 0
      · rw [if_pos hy] at ok ⊢
        rw [b1_some]
        exact pk_some (show Sp n f (1000 * x.toInt) y x4 from by rw [h6]; exact ok)
      · rw [if_neg hy] at ok ⊢
        refine pk_some (show Sp n f (1000 * x.toInt) y ((x4 + x3) - ci 1) from ?_)
        rw [h6, h5, cn_add (a := z) (b := l + 1) (by omega), show cn (z + (l + 1)) - ci 1 = cn (z + (l + 1) - 1) from cn_sub (b := 1) (by omega) (by omega), show z + (l + 1) - 1 = z + l by omega]
        exact ok
    · rw [if_pos h3, b1_some]
      exact pk_some (show Sp n f (1000 * x.toInt) y x4 from by rw [h3]; exact Or.inr ⟨fun s' l' k1 => h1 s' l' (by omega) k1, rfl⟩)
  rw [if_neg (fun q => hpn ((cn_lt (by omega) (by omega)).mp q))]
  refine pk_b1 (V_longR hf g2 hn ht (by omega : p ≤ n) hx) (fun v13 h13 => ?_)
  have nx : ∀ z3 z4, Bp n (p + 1) f (1000 * x.toInt) z3 z4 → pk (some (Sum.inl (x, y, z3, z4, cn p + ci 1, t)) : Option ((Int32 × Int32 × Int32 × Int32 × Int32 × mG) ⊕ (Int32 × mG))) (se (fun v : Int32 × Int32 × Int32 × Int32 × Int32 × mG => v.1 = x ∧ v.2.1 = y ∧ ∃ p, p ≤ n + 1 ∧ v.2.2.2.2.1 = cn p ∧ Bp n p f (1000 * x.toInt) v.2.2.1 v.2.2.2.1 ∧ v.2.2.2.2.2 = t) (fun τ : Int32 × mG => Sp n f (1000 * x.toInt) y τ.1)) := fun z3 z4 hz => pk_some (show _ ∧ _ ∧ ∃ p', _ from ⟨rfl, rfl, p + 1, by omega, cnu (by omega), hz, rfl⟩)
  rcases h13 with ⟨l, h1, h2, h3, h4⟩ | ⟨h1, h2⟩
  · rw [if_neg (show ¬ v13 = ci (-1) by rw [h4]; exact cn_ne1 (by omega))]
    rcases q3 with ⟨z, l0, k1, k2, k3, k4, k5, k6⟩ | ⟨k1, k2, k3⟩
    · rw [if_neg (show ¬ x3 = ci (-1) by rw [k5]; exact cn_ne1 (by omega))]
      by_cases hl : l < l0
      · rw [if_pos (show v13 < x3 by rw [h4, k5]; exact (cn_lt (by omega) (by omega)).mpr (by omega))]
        refine nx _ _ (Or.inl ⟨p, l, by omega, h1, h2, fun s' l' e1 e2 e3 => ?_, h4, rfl⟩)
        by_cases e : s' = p
        · rw [e] at e3
          by_cases f1 : l' < l
          · exact absurd e3 (h3 l' f1)
          · omega
        · have := k4 s' l' (by omega) e2 e3
          omega
      · rw [if_neg (show ¬ v13 < x3 by rw [h4, k5]; exact fun q => hl (by have := (cn_lt (by omega) (by omega)).mp q; omega))]
        refine nx _ _ (Or.inl ⟨z, l0, by omega, k2, k3, fun s' l' e1 e2 e3 => ?_, k5, k6⟩)
        by_cases e : s' = p
        · rw [e] at e3
          by_cases f1 : l' < l
          · exact absurd e3 (h3 l' f1)
          · omega
        · exact k4 s' l' (by omega) e2 e3
    · rw [if_pos k2]
      refine nx _ _ (Or.inl ⟨p, l, by omega, h1, h2, fun s' l' e1 e2 e3 => ?_, h4, rfl⟩)
      by_cases e : s' = p
      · rw [e] at e3
        by_cases f1 : l' < l
        · exact absurd e3 (h3 l' f1)
        · omega
      · exact absurd e3 (k1 s' l' (by omega) e2)
  · rw [if_pos h2]
    refine nx _ _ ?_
    rcases q3 with ⟨z, l0, k1, k2, k3, k4, k5, k6⟩ | ⟨k1, k2, k3⟩
    · refine Or.inl ⟨z, l0, by omega, k2, k3, fun s' l' e1 e2 e3 => ?_, k5, k6⟩
      by_cases e : s' = p
      · rw [e] at e2 e3
        exact absurd e3 (h1 l' e2)
      · exact k4 s' l' (by omega) e2 e3
    · refine Or.inr ⟨fun s' l' e1 e2 => ?_, k2, k3⟩
      by_cases e : s' = p
      · rw [e] at e2 ⊢
        exact h1 l' e2
      · exact k1 s' l' (by omega) e2
theorem R_span {a b : mG} {x y : Int32} (hI : IM b) (h : SIM a b) : rel (F_X11_span x y a) (F_X12_span x y b) (fun τ υ => τ.1 = υ.1) := by
  obtain ⟨n, nc, m, K, g2, V, hm, h3, hw⟩ := SIM_S h
  have hn := K.2.2.1
  unfold F_X11_span F_X12_span F_X11_span_20 F_X12_span_20 F_X11_span_37
  rw [V_within, F_isIn, b1_some, b1_some]
  refine rel_ifs Iff.rfl (fun _ => rel_some rfl) (fun hx => ?_)
  have hx2 := wi_f hx
  rw [show (ci 0).toInt = 0 by decide, show (c16 1000).toInt = 1000 by decide] at hx2
  rw [V_within, F_isIn, b1_some, b1_some]
  refine rel_ifs Iff.rfl (fun _ => rel_some rfl) (fun hy => ?_)
  refine rel_r1 (V_laysC K.2.2.2.2 g2 hn hw hm (fun _ _ _ => rfl)) (fun t qt => ?_)
  obtain ⟨t1, t2⟩ := qt
  have R := V_spanR (y := y) (dN_r hI hw hm n) (by rw [t2 89 (by decide) (by decide)]; exact g2) hn t1 hx2
  obtain ⟨c, hc, ey⟩ := wi_cn (l := 1) (by omega) hy
  rcases (show c = 0 ∨ c = 1 by omega) with e | e <;> rw [e] at ey
  · rw [if_neg (show ¬ y = ci 1 by rw [ey]; decide)]
    refine rel_l2 (V_edgeC (y := ci 0) hI K h3 hw hm hx2) (fun v s q => ?_)
    exact rel_sp R (fun v' qv => show v = v'.1 from Sp_u q (by rw [show y = ci 0 from ey] at qv; exact qv))
  · rw [if_pos (show y = ci 1 from ey)]
    refine rel_l2 (V_edgeC (y := ci 1) hI K h3 hw hm hx2) (fun v s q => ?_)
    exact rel_sp R (fun v' qv => show v = v'.1 from Sp_u q (by rw [show y = ci 1 from ey] at qv; exact qv))
end
end
/-! 5zr1.pairs -/
section
noncomputable section
/-! WHAT TO SAY; the likeliest two -/
def sayB (y : Int64) (p q : Int32) : Int32 := if 0 < lg_cmp ((cl 1000000 - y) * p.toInt64) (y * q.toInt64) then ci 0 else ci 1
theorem sayB_r {y : Int64} {p q : Int32} : sayB y p q = ci 0 ∨ sayB y p q = ci 1 := by
  unfold sayB
  by_cases h : 0 < lg_cmp ((cl 1000000 - y) * p.toInt64) (y * q.toInt64)
  · rw [if_pos h]; exact Or.inl rfl
  · rw [if_neg h]; exact Or.inr rfl
theorem V_isCost {s : mG} {x : Int32} : F_X12_isCost s x = some (wi x (ci 0) (c16 9999)) := by
  unfold F_X12_isCost
  rw [F_isIn, b1_some, if_pos (show wi x (ci 0) (c16 9999) = 0 ∨ wi x (ci 0) (c16 9999) = 1 from wi_b x (ci 0) (c16 9999))]
theorem V_bestSaid {s : mG} {y : Int64} {p q : Int32} : F_X0_isBestSaidIn s y p q = some (sayB y p q) := by
  unfold F_X0_isBestSaidIn sayB
  by_cases h : 0 < lg_cmp ((cl 1000000 - y) * p.toInt64) (y * q.toInt64)
  · rw [if_pos h, if_pos h]
  · rw [if_neg h, if_neg h]
theorem V_saysC {a b : mG} {n nc g m : Nat} {p q : Int32} (hI : IM b) (K : HK (b.1 89) n nc a) (hg : g < n) (h3 : a.1 10 3 = cn m) (hm : m ≤ 6) : pk (F_X0_saysIn (cn g) p q a) (fun τ => τ.1 = sayB (sureN (b.1 89) m g) p q) := by
  unfold F_X0_saysIn
  refine pk_b2 (V_sureC hI K hg h3 hm) (fun v3 s2 qt => ?_)
  obtain ⟨t1o, _⟩ := qt
  have t1 : Su v3 (sureN (b.1 89) m g) := t1o
  rw [V_bestSaid, b1_some, ← t1.1]
  refine pk_pp (pk_some (show sayB _ p q = sayB _ p q from rfl))
theorem R_say {a b : mG} {x y z : Int32} (hI : IM b) (h : SIM a b) : rel (F_X11_say x y z a) (F_X12_say x y z b) (fun τ υ => τ.1 = υ.1) := by
  obtain ⟨n, nc, m, K, g2, V, hm, h3, hw⟩ := SIM_S h
  have hn := K.2.2.1
  unfold F_X11_say F_X12_say F_X11_say_33 F_X12_say_22
  rw [V_isGuest, V_isGuestR g2 hn, b1_some, b1_some, show a.1 (1 + 1) 3 = cn n from K.2.1]
  refine rel_ifs Iff.rfl (fun _ => rel_some rfl) (fun hx => ?_)
  obtain ⟨g, hg, ex⟩ := ig_cn (by omega) hx
  rw [V_within, V_isCost, b1_some, b1_some]
  refine rel_ifs Iff.rfl (fun _ => rel_some rfl) (fun _ => ?_)
  rw [V_within, V_isCost, b1_some, b1_some]
  refine rel_ifs Iff.rfl (fun _ => rel_some rfl) (fun _ => ?_)
  rw [ex]
  refine rel_l2 (V_saysC (p := y) (q := z) hI K hg h3 hm) (fun v12 s11 qo => ?_)
  have q : v12 = sayB (sureN (b.1 89) m g) y z := qo
  refine rel_r2 (V_sureS K.2.2.2.2 hn hg hw hm rfl) (fun v t qt => ?_)
  obtain ⟨t1o, _⟩ := qt
  have t1 : v = sureN (b.1 89) m g := t1o
  rw [t1]
  unfold sayB at q
  by_cases hc : 0 < lg_cmp ((cl 1000000 - sureN (b.1 89) m g) * y.toInt64) (sureN (b.1 89) m g * z.toInt64)
  · rw [if_pos hc] at q ⊢
    rw [q, if_pos c0e0]
    exact rel_some rfl
  · rw [if_neg hc] at q ⊢
    rw [q, if_neg c1n0]
    exact rel_some rfl
/-- as Su, from -1 on -/
def Sm (x : Int32) (y : Int64) : Prop := y = x.toInt64 ∧ -1 ≤ x.toInt ∧ x.toInt ≤ 1000000
theorem Sm_1 : Sm (ci (-1)) (cl (-1)) := (show _ ∧ _ ∧ _ from ⟨by decide, by decide, by decide⟩)
theorem Sm_t {x : Int32} {y : Int64} (h : Sm x y) : y.toInt = x.toInt := by rw [h.1, Int32.toInt_toInt64]
theorem Sm_u {x : Int32} {y : Int64} (h : Su x y) : Sm x y := ⟨h.1, Int.le_trans (by decide) h.2.1, h.2.2⟩
theorem Sm_32 {x : Int32} {y : Int64} (h : Sm x y) : y.toInt32 = x := by
  have r := h.2
  exact Int32.toInt_inj.mp (q32 (Sm_t h) ⟨by omega, by omega⟩)
theorem le64 {x x' : Int32} {y y' : Int64} (h : y.toInt = x.toInt) (h' : y'.toInt = x'.toInt) : x ≤ x' ↔ ¬ 0 < lg_cmp y y' := by
  have e3 := lg_cmp_gt y y'
  rw [Int64.lt_iff_toInt_lt, h, h'] at e3
  rw [e3, Int32.le_iff_toInt_le]
  exact Int.not_lt.symm
theorem R_best2 {b u : mG} {n nc m : Nat} {x : Int32} (Ku : HK (b.1 89) n nc u) (u1 : ∀ g, g < n → Su (u.1 76 g) (sureN (b.1 89) m g)) (g2 : b.1 89 112 = cn n) (hw : b.1 89 115 = cn m) (hm : m ≤ 6) (hx : x = ci 0 ∨ x = ci 1 ∨ x = ci 2) : rel (F_X0_bestPair_L14 x (ci (-1)) (ci (-1)) (ci (-1)) (ci 0) u) (F_X12_pair_L35 x (cl (-1)) (ci (-1)) (ci (-1)) (ci 0) b) (fun τ υ => τ.1 = υ.1) := by
  have hn := Ku.2.2.1
  unfold F_X0_bestPair_L14 F_X12_pair_L35
  refine rel_whl (fun v w => v.1 = x ∧ w.1 = x ∧ v.2.1 = w.2.2.1 ∧ v.2.2.1 = w.2.2.2.1 ∧ Sm v.2.2.2.1 w.2.1 ∧ (∃ k, k ≤ n ∧ v.2.2.2.2.1 = cn k ∧ w.2.2.2.2.1 = cn k) ∧ v.2.2.2.2.2 = u ∧ ∀ j, j ≠ 96 → j ≠ 97 → w.2.2.2.2.2.1 j = b.1 j) ⟨rfl, rfl, rfl, rfl, Sm_1, ⟨0, Nat.zero_le _, rfl, rfl⟩, rfl, fun _ _ _ => rfl⟩ (fun v w hvw => ?_)
  obtain ⟨x1, x2, x3, x4, x5, s⟩ := v
  obtain ⟨y1, y2, y4, y5, y6, t⟩ := w
  obtain ⟨q0o, q1o, q2o, q3o, q4o, ⟨k, hk, q5o, q6o⟩, q7o, ro⟩ := hvw
  have q0 : x1 = x := q0o
  have q1 : y1 = x := q1o
  have q2 : x2 = y4 := q2o
  have q3 : x3 = y5 := q3o
  have q4 : Sm x4 y2 := q4o
  have q5 : x5 = cn k := q5o
  have q6 : y6 = cn k := q6o
  have q7 : s = u := q7o
  have r : ∀ j, j ≠ 96 → j ≠ 97 → t.1 j = b.1 j := ro
  have e89 : t.1 89 = b.1 89 := r 89 (by decide) (by decide)
  unfold F_X0_bestPair_B14 F_X12_pair_B35
  dsimp only
  rw [q0, q1, q2, q3, q5, q6, q7, e89, g2, Ku.2.1]
  by_cases hkn : n ≤ k
  · rw [if_pos ((cn_le (by omega) (by omega)).mpr hkn), if_pos ((cn_le (by omega) (by omega)).mpr hkn)]
    rcases hx with e | e | e
    · rw [e, if_neg (show ¬ ci 0 = ci 2 by decide), if_pos c0e0, if_pos c0e0]
      exact rel_some (show y4 = y4 from rfl)
    · rw [e, if_neg (show ¬ ci 1 = ci 2 by decide), if_neg c1n0, if_neg c1n0, if_pos rfl]
      exact rel_some (show y5 = y5 from rfl)
    · rw [e, if_pos rfl, if_neg (show ¬ ci 2 = 0 by decide), if_neg (show ¬ ci 2 = ci 1 by decide)]
      exact rel_some (show x4 = y2.toInt32 from (Sm_32 q4).symm)
  rw [if_neg (fun q => hkn ((cn_le (by omega) (by omega)).mp q)), if_neg (fun q => hkn ((cn_le (by omega) (by omega)).mp q)), show cn k + ci 1 = cn (k + 1) from cnu (by omega)]
  unfold F_X0_bestPair_L35 F_X12_pair_L53
  refine rel_whl (fun v w => v.1 = x ∧ w.1 = x ∧ v.2.1 = w.2.2.1 ∧ v.2.2.1 = w.2.2.2.1 ∧ Sm v.2.2.2.1 w.2.1 ∧ v.2.2.2.2.1 = cn k ∧ w.2.2.2.2.1 = cn k ∧ (∃ p, p ≤ n ∧ v.2.2.2.2.2.1 = cn p ∧ w.2.2.2.2.2.1 = cn p) ∧ v.2.2.2.2.2.2 = u ∧ ∀ j, j ≠ 96 → j ≠ 97 → w.2.2.2.2.2.2.1 j = b.1 j) ⟨rfl, rfl, rfl, rfl, q4, rfl, rfl, ⟨k + 1, by omega, rfl, rfl⟩, rfl, r⟩ (fun v w hvw => ?_)
  obtain ⟨z1, z2, z3, z4, z5, z6, s'⟩ := v
  obtain ⟨o1, o2, o4, o5, o6, o7, t'⟩ := w
  obtain ⟨p0o, p1o, p2o, p3o, p4o, p5o, p6o, ⟨p, hp, p7o, p8o⟩, p9o, rto⟩ := hvw
  have p0 : z1 = x := p0o
  have p1 : o1 = x := p1o
  have p2 : z2 = o4 := p2o
  have p3 : z3 = o5 := p3o
  have p4 : Sm z4 o2 := p4o
  have p5 : z5 = cn k := p5o
  have p6 : o6 = cn k := p6o
  have p7 : z6 = cn p := p7o
  have p8 : o7 = cn p := p8o
  have p9 : s' = u := p9o
  have rt : ∀ j, j ≠ 96 → j ≠ 97 → t'.1 j = b.1 j := rto
  have f89 : t'.1 89 = b.1 89 := rt 89 (by decide) (by decide)
  unfold F_X0_bestPair_B35 F_X12_pair_B53 F_X0_bestPair_90 F_X12_pair_105
  dsimp only
  rw [p0, p1, p2, p3, p5, p6, p7, p8, p9, f89, g2, Ku.2.1]
  by_cases hpn : n ≤ p
  · rw [if_pos ((cn_le (by omega) (by omega)).mpr hpn), if_pos ((cn_le (by omega) (by omega)).mpr hpn)]
    exact rel_some (show _ ∧ _ ∧ _ ∧ _ ∧ _ ∧ (∃ k', _) ∧ _ ∧ _ from ⟨rfl, rfl, rfl, rfl, p4, ⟨k + 1, by omega, cnu (by omega), cnu (by omega)⟩, rfl, rt⟩)
  rw [if_neg (fun q => hpn ((cn_le (by omega) (by omega)).mp q)), if_neg (fun q => hpn ((cn_le (by omega) (by omega)).mp q)), V_cellJ (j := 76) (k := k) sh76 (by omega) (by decide), b1_some, V_cellJ (j := 76) (k := p) sh76 (by omega) (by decide), b1_some]
  refine rel_l1 (Su_share (u1 k (by omega)) (u1 p (by omega))) (fun v12 h12 => ?_)
  refine rel_r2 (V_sureS Ku.2.2.2.2 hn (by omega : k < n) hw hm f89) (fun v11 s10 qt => ?_)
  obtain ⟨t1o, t2o, _⟩ := qt
  have t1 : v11 = sureN (b.1 89) m k := t1o
  have t2 : ∀ j, j ≠ 96 → j ≠ 97 → s10.1 j = t'.1 j := t2o
  refine rel_r2 (V_sureS Ku.2.2.2.2 hn (by omega : p < n) hw hm ((t2 89 (by decide) (by decide)).trans f89)) (fun v14 s13 qs => ?_)
  obtain ⟨w1o, w2o, _⟩ := qs
  have w1 : v14 = sureN (b.1 89) m p := w1o
  have w2 : ∀ j, j ≠ 96 → j ≠ 97 → s13.1 j = s10.1 j := w2o
  have fr : ∀ j, j ≠ 96 → j ≠ 97 → s13.1 j = b.1 j := fun j h1 h2 => (w2 j h1 h2).trans ((t2 j h1 h2).trans (rt j h1 h2))
  rw [t1, w1]
  have M := le64 (Su_t h12) (Sm_t p4)
  refine rel_ri (fun hc => ?_) (fun hc => ?_)
  · rw [if_neg (fun q => M.mp q hc)]
    exact rel_some (show _ ∧ _ ∧ _ ∧ _ ∧ _ ∧ _ ∧ _ ∧ (∃ k', _) ∧ _ ∧ _ from ⟨rfl, rfl, rfl, rfl, Sm_u h12, rfl, rfl, ⟨p + 1, by omega, cnu (by omega), cnu (by omega)⟩, rfl, fr⟩)
  · rw [if_pos (M.mpr hc)]
    exact rel_some (show _ ∧ _ ∧ _ ∧ _ ∧ _ ∧ _ ∧ _ ∧ (∃ k', _) ∧ _ ∧ _ from ⟨rfl, rfl, rfl, rfl, p4, rfl, rfl, ⟨p + 1, by omega, cnu (by omega), cnu (by omega)⟩, rfl, fr⟩)
theorem R_pair {a b : mG} {x : Int32} (hI : IM b) (h : SIM a b) : rel (F_X11_pair x a) (F_X12_pair x b) (fun τ υ => τ.1 = υ.1) := by
  obtain ⟨n, nc, m, K, g2, V, hm, h3, hw⟩ := SIM_S h
  have hn := K.2.2.1
  unfold F_X11_pair F_X12_pair F_X11_pair_23 F_X12_pair_20
  rw [V_within, F_isIn, b1_some, b1_some]
  refine rel_ifs Iff.rfl (fun _ => rel_some rfl) (fun hx => ?_)
  rw [K.2.1, g2]
  refine rel_ifs Iff.rfl (fun _ => ?_) (fun _ => rel_some rfl)
  obtain ⟨c, hc, ey⟩ := wi_cn (l := 2) (by omega) hx
  have hx3 : x = ci 0 ∨ x = ci 1 ∨ x = ci 2 := by
    rcases (show c = 0 ∨ c = 1 ∨ c = 2 by omega) with e | e | e <;> rw [e] at ey
    · exact Or.inl ey
    · exact Or.inr (Or.inl ey)
    · exact Or.inr (Or.inr ey)
  unfold F_X0_bestPair
  rw [b2_b1]
  refine rel_l1 (V_weigh hI K h3 hm) (fun u qu => ?_)
  obtain ⟨u1, u2⟩ := qu
  have Ku : HK (b.1 89) n nc u := HK_low K (fun j h1 h2 => u2 j (by omega) (by omega) (by omega) (by omega))
  rw [b2_id]
  exact R_best2 Ku u1 g2 hw hm hx3
end
end
/-! 5zr2.next -/
section
noncomputable section
/-! WHICH SIGN NEXT -/
/-- the chance to see it -/
def sgW (w : Nat → Int32) (y : Int64) (k : Nat) : Int64 := ((y * (w (143 + 2 * k)).toInt64) + ((cl 1000000 - y) * (w (143 + 2 * k + 1)).toInt64)) / cl 1000
theorem sg_i {X P Q : Int} (h0 : 0 ≤ X) (h1 : X ≤ 1000000) (p0 : 0 ≤ P) (p1 : P ≤ 1000) (q0 : 0 ≤ Q) (q1 : Q ≤ 1000) : ∃ A B : Int, X * P = A ∧ (1000000 - X) * Q = B ∧ (0 ≤ A ∧ A < 2147483648) ∧ (0 ≤ B ∧ B < 2147483648) ∧ (0 ≤ A + B ∧ A + B < 2147483648) ∧ 0 ≤ (A + B) / 1000 ∧ (A + B) / 1000 ≤ 1000000 := by
  have a0 : 0 ≤ X * P := Int.mul_nonneg h0 p0
  have a1 : X * P ≤ X * 1000 := Int.mul_le_mul_of_nonneg_left p1 h0
  have d0 : 0 ≤ (1000000 - X) * Q := Int.mul_nonneg (by omega) q0
  have d1 : (1000000 - X) * Q ≤ (1000000 - X) * 1000 := Int.mul_le_mul_of_nonneg_left q1 (by omega)
  generalize X * P = A at a0 a1
  generalize (1000000 - X) * Q = B at d0 d1
  exact ⟨A, B, rfl, rfl, ⟨a0, by omega⟩, ⟨d0, by omega⟩, ⟨by omega, by omega⟩, by omega, by omega⟩
theorem sg_m {y p q : Int64} (hy : 0 ≤ y.toInt ∧ y.toInt ≤ 1000000) (hp : 0 ≤ p.toInt ∧ p.toInt ≤ 1000) (hq : 0 ≤ q.toInt ∧ q.toInt ≤ 1000) : 0 ≤ (((y * p) + ((cl 1000000 - y) * q)) / cl 1000).toInt ∧ (((y * p) + ((cl 1000000 - y) * q)) / cl 1000).toInt ≤ 1000000 := by
  obtain ⟨A, B, hA, hB, ra, rb, rc, d1, d2⟩ := sg_i hy.1 hy.2 hp.1 hp.2 hq.1 hq.2
  have s1 : (cl 1000000 - y).toInt = 1000000 - y.toInt := l_sub (by decide : (cl 1000000).toInt = 1000000) rfl (by omega) (by omega)
  have aa := (lo32 ra).2
  have bb := (lo32 rb).2
  have cc := (lo32 rc).2
  have c1 : (y * p).toInt = A := by
    rw [← hA] at aa ⊢
    exact l_mul rfl rfl aa.1 aa.2
  have c2 : ((cl 1000000 - y) * q).toInt = B := by
    rw [← hB] at bb ⊢
    exact l_mul s1 rfl bb.1 bb.2
  have c3 : ((y * p) + ((cl 1000000 - y) * q)).toInt = A + B := l_add c1 c2 cc.1 cc.2
  have f1 : (((y * p) + ((cl 1000000 - y) * q)) / cl 1000).toInt = (A + B) / 1000 := l_div c3 (by decide : (cl 1000).toInt = 1000) rc.1 (by decide) cc.2
  rw [f1]
  exact ⟨d1, d2⟩
theorem sgW_r {b : mG} {y : Int64} {m k : Nat} (hI : IM b) (hw : b.1 89 115 = cn m) (hm : m ≤ 6) (hk : k < m) (hy : 0 ≤ y.toInt ∧ y.toInt ≤ 1000000) : 0 ≤ (sgW (b.1 89) y k).toInt ∧ (sgW (b.1 89) y k).toInt ≤ 1000000 := by
  obtain ⟨r1, r2⟩ := sg_r hI hw hm hk
  have p1 := i64_r r1
  have p2 := i64_r r2
  exact sg_m hy ⟨Int.le_trans (by decide) p1.1, Int.le_trans p1.2 (by decide)⟩ ⟨Int.le_trans (by decide) p2.1, Int.le_trans p2.2 (by decide)⟩
theorem V_seeC {a b : mG} {x : Int32} {y : Int64} {m k : Nat} (hI : IM b) (HS : TWr 10 2 6 115 ixS a.1 (b.1 89)) (h3 : a.1 10 3 = cn m) (hw : b.1 89 115 = cn m) (hm : m ≤ 6) (hk : k < m) (hs : Su x y) : pk (F_X0_chanceToSee a x (cn k)) (fun v => Su v (sgW (b.1 89) y k)) := by
  have rr := sgW_r hI hw hm hk (Su_r hs)
  unfold F_X0_chanceToSee
  rw [V_atS (c := 0) (k := ci 0) HS h3 hm hk (by decide) rfl, b1_some, V_atS (c := 1) (k := ci 1) HS h3 hm hk (by decide) rfl, b1_some, show ixS k 0 = 143 + 2 * k from rfl, show ixS k 1 = 143 + 2 * k + 1 from rfl, x64_sub hs.2, ← hs.1]
  exact pk_some (Su_of rr)
theorem V_seeR {b : mG} {y : Int64} {k : Nat} (hk : k < 6) : pk (F_X12_seeing b y (cn k)) (fun v => v = sgW (b.1 89) y k) := by
  unfold F_X12_seeing
  rw [show ci 2 * cn k = cn (2 * k) from cn_mul (a := 2) (by omega) (by omega) (by omega), show c16 143 + cn (2 * k) = cn (143 + 2 * k) from cn_add (a := 143) (by omega), show cn (143 + 2 * k) + ci 1 = cn (143 + 2 * k + 1) from cn_add (b := 1) (by omega), cn_nat (n := 143 + 2 * k) (by omega), cn_nat (n := 143 + 2 * k + 1) (by omega)]
  exact pk_nn (pk_nn (pk_some rfl))
/-- the surer of the two -/
def sur (z : Int64) : Int64 := if lg_cmp z (cl 1000000 - z) ≤ 0 then cl 1000000 - z else z
theorem lmax_sur {z : Int64} : lmax z (cl 1000000 - z) = sur z := by
  unfold sur
  show (if cl 1000000 - z < z then z else cl 1000000 - z) = _
  by_cases h : z ≤ cl 1000000 - z
  · rw [if_pos ((lg_cmp_le _ _).mpr h), if_neg (fun q => by
      rw [Int64.lt_iff_toInt_lt] at q
      rw [Int64.le_iff_toInt_le] at h
      exact absurd q (Int.not_lt.mpr h))]
  · rw [if_neg (fun q => h ((lg_cmp_le _ _).mp q)), if_pos (by
      rw [Int64.le_iff_toInt_le] at h
      rw [Int64.lt_iff_toInt_lt]
      exact Int.not_le.mp h)]
def wN (w : Nat → Int32) (y : Int64) (k : Nat) : Int64 := (sgW w y k * sur (byS w y k (ci 1))) + ((cl 1000000 - sgW w y k) * sur (byS w y k (ci 0)))
theorem V_worthC {a b : mG} {x : Int32} {y : Int64} {m k : Nat} (hI : IM b) (HS : TWr 10 2 6 115 ixS a.1 (b.1 89)) (h3 : a.1 10 3 = cn m) (hw : b.1 89 115 = cn m) (hm : m ≤ 6) (hk : k < m) (hs : Su x y) : pk (F_X0_surenessBy a x (cn k)) (fun v => v = wN (b.1 89) y k) := by
  unfold F_X0_surenessBy
  refine pk_b1 (V_seeC hI HS h3 hw hm hk hs) (fun v2 h2 => ?_)
  refine pk_b1 (V_afterC hI HS h3 hm hk hs (Or.inr rfl)) (fun v4 h4 => ?_)
  refine pk_b1 (V_afterC hI HS h3 hm hk hs (Or.inl rfl)) (fun v6 h6 => ?_)
  rw [x64_sub h2.2, ← h2.1, ← h4.1, ← h6.1, lmax_sur, lmax_sur]
  exact pk_some rfl
theorem V_surer {s : mG} {z : Int64} : F_X12_surer s z = some (sur z) := by
  unfold F_X12_surer sur
  by_cases h : lg_cmp z (cl 1000000 - z) ≤ 0
  · rw [if_pos h, if_pos h]
  · rw [if_neg h, if_neg h]
theorem V_worthR {b : mG} {y : Int64} {k : Nat} (hk : k < 6) : pk (F_X12_worthOf b y (cn k)) (fun v => v = wN (b.1 89) y k) := by
  unfold F_X12_worthOf
  refine pk_b1 (V_seeR hk) (fun v2 h2 => ?_)
  refine pk_b1 (V_bySignR hk) (fun v4 h4 => ?_)
  rw [V_surer, b1_some]
  refine pk_b1 (V_bySignR hk) (fun v8 h8 => ?_)
  rw [V_surer, b1_some, h2, h4, h8]
  exact pk_some rfl
/-- the best of the first k that stand open -/
def bsN (f : Nat → Int64) (q : Nat → Int32) : Nat → Int32 × Int64
  | 0 => (ci (-1), cl (-1))
  | k + 1 => if q k = ci (-1) ∧ (bsN f q k).2.toInt < (f k).toInt then (cn k, f k) else bsN f q k
theorem bsN_s {f : Nat → Int64} {q : Nat → Int32} {k : Nat} : bsN f q (k + 1) = if q k = ci (-1) ∧ (bsN f q k).2.toInt < (f k).toInt then (cn k, f k) else bsN f q k := rfl
theorem V_bestC {a b : mG} {x : Int32} {y : Int64} {m : Nat} {q : Nat → Int32} (hI : IM b) (HS : TWr 10 2 6 115 ixS a.1 (b.1 89)) (h3 : a.1 10 3 = cn m) (hw : b.1 89 115 = cn m) (hm : m ≤ 6) (hs : Su x y) (h74 : ∀ k, k < 6 → a.1 74 k = q k) : pk (F_X0_bestSign a x) (fun v => v = (bsN (wN (b.1 89) y) q m).1) := by
  unfold F_X0_bestSign F_X0_bestSign_L9
  refine pk_whl (fun v => v.1 = x ∧ ∃ k, k ≤ m ∧ v.2.1 = (bsN (wN (b.1 89) y) q k).1 ∧ v.2.2.1 = (bsN (wN (b.1 89) y) q k).2 ∧ v.2.2.2 = cn k) ⟨rfl, 0, Nat.zero_le _, rfl, rfl, rfl⟩ (fun v hv => ?_)
  obtain ⟨x1, x2, x3, x5⟩ := v
  obtain ⟨q0o, k, hk, q1o, q2o, q3o⟩ := hv
  have q0 : x1 = x := q0o
  have q1 : x2 = (bsN (wN (b.1 89) y) q k).1 := q1o
  have q2 : x3 = (bsN (wN (b.1 89) y) q k).2 := q2o
  have q3 : x5 = cn k := q3o
  unfold F_X0_bestSign_B9 F_X0_bestSign_59
  dsimp only
  rw [q0, q1, q2, q3, h3]
  by_cases hkm : m ≤ k
  · have ek : k = m := by omega
    rw [if_pos ((cn_le (by omega) (by omega)).mpr hkm), ek]
    exact pk_some (show (bsN (wN (b.1 89) y) q m).1 = _ from rfl)
  rw [if_neg (fun z => hkm ((cn_le (by omega) (by omega)).mp z))]
  refine pk_b1 (V_worthC hI HS h3 hw hm (by omega : k < m) hs) (fun v3 hv3 => ?_)
  rw [V_cellJ (j := 74) (k := k) sh74 (by omega) (by decide), b1_some, h74 k (by omega), hv3]
  by_cases e1 : q k = ci (-1)
  · rw [if_pos e1]
    by_cases e2 : (bsN (wN (b.1 89) y) q k).2.toInt < (wN (b.1 89) y k).toInt
    · rw [if_neg (fun z => by
        have z := (lg_cmp_le _ _).mp z
        rw [Int64.le_iff_toInt_le] at z
        exact absurd e2 (Int.not_lt.mpr z))]
      exact pk_some (show _ ∧ ∃ k', _ from ⟨rfl, k + 1, by omega, by rw [bsN_s, if_pos ⟨e1, e2⟩], by rw [bsN_s, if_pos ⟨e1, e2⟩], cnu (by omega)⟩)
    · rw [if_pos ((lg_cmp_le _ _).mpr (Int64.le_iff_toInt_le.mpr (Int.not_lt.mp e2)))]
      exact pk_some (show _ ∧ ∃ k', _ from ⟨rfl, k + 1, by omega, by rw [bsN_s, if_neg (fun z => e2 z.2)], by rw [bsN_s, if_neg (fun z => e2 z.2)], cnu (by omega)⟩)
  · rw [if_neg e1]
    exact pk_some (show _ ∧ ∃ k', _ from ⟨rfl, k + 1, by omega, by rw [bsN_s, if_neg (fun z => e1 z.1)], by rw [bsN_s, if_neg (fun z => e1 z.1)], cnu (by omega)⟩)
/-- the signs looked at, as bits -/
theorem lo6 {v : Int32} (h : ∀ i, i < 32 → btk v i = true → i < 6) : ∃ y, y < 64 ∧ v = cn y := by
  have hm : v.toBitVec.toNat < 2 ^ 6 := Nat.lt_pow_two_of_testBit _ (fun i hi => by
    by_cases hi2 : i < 32
    · cases e : Nat.testBit v.toBitVec.toNat i with
      | false => rfl
      | true => exact absurd (h i hi2 e) (by omega)
    · exact BitVec.getLsbD_of_ge v.toBitVec i (by omega))
  have hm : v.toBitVec.toNat < 64 := hm
  refine ⟨v.toBitVec.toNat, hm, Int32.toBitVec_inj.mp (BitVec.eq_of_toNat_eq ?_)⟩
  show _ = (BitVec.ofNat 32 v.toBitVec.toNat).toNat
  rw [BitVec.toNat_ofNat]
  omega
theorem sr_6 : ∀ y, y < 64 → ∀ k, k < 6 → ((cn y >>> (cn k &&& 31)) &&& ci 1 = ci 1 ↔ btk (cn y) k = true) := by decide +kernel
def LkB (q : Nat → Int32) (k : Nat) (v : Int32) : Prop := ∀ i, i < 32 → (btk v i = true ↔ i < k ∧ ¬ q i = ci (-1))
theorem V_looked {b s : mG} {n g m : Nat} (hn : n ≤ 12) (hg : g < n) (hw : b.1 89 115 = cn m) (hm : m ≤ 6) (e89 : s.1 89 = b.1 89) : pk (F_X12_lookedAt s (cn g)) (LkB (glw (b.1 89) g) m) := by
  unfold F_X12_lookedAt F_X12_lookedAt_L4
  refine pk_whl (fun v => v.1 = cn g ∧ ∃ k, k ≤ m ∧ LkB (glw (b.1 89) g) k v.2.1 ∧ v.2.2 = cn k) ⟨rfl, 0, Nat.zero_le _, fun i hi => ⟨fun q => absurd q (bt_0n hi), fun q => absurd q.1 (by omega)⟩, rfl⟩ (fun v hv => ?_)
  obtain ⟨x1, x2, x3⟩ := v
  obtain ⟨q0o, k, hk, q1o, q2o⟩ := hv
  have q0 : x1 = cn g := q0o
  have q1 : LkB (glw (b.1 89) g) k x2 := q1o
  have q2 : x3 = cn k := q2o
  unfold F_X12_lookedAt_B4 F_X12_lookedAt_41
  dsimp only
  rw [q0, q2, e89, hw]
  by_cases hkm : m ≤ k
  · have ek : k = m := by omega
    rw [if_pos ((cn_le (by omega) (by omega)).mpr hkm)]
    rw [ek] at q1
    exact pk_some (show LkB _ m x2 from q1)
  rw [if_neg (fun z => hkm ((cn_le (by omega) (by omega)).mp z)), ei_G (by omega), cn_nat (n := 39 + 6 * g + k) (by omega), show b.1 89 (39 + 6 * g + k) = glw (b.1 89) g k from rfl]
  refine pk_nn ?_
  have st : ∀ d : Int32, (∀ i, i < 32 → (btk d i = true ↔ i = k ∧ ¬ glw (b.1 89) g k = ci (-1))) → LkB (glw (b.1 89) g) (k + 1) (x2 ||| d) := fun d hd i hi => by
    rw [bt_or, Bool.or_eq_true, q1 i hi, hd i hi]
    constructor
    · intro z
      rcases z with z | z
      · exact ⟨by have := z.1; omega, z.2⟩
      · exact ⟨by have := z.1; omega, by rw [z.1]; exact z.2⟩
    · intro z
      by_cases ei : i = k
      · exact Or.inr ⟨ei, by rw [← ei]; exact z.2⟩
      · exact Or.inl ⟨by have := z.1; omega, z.2⟩
  by_cases e1 : glw (b.1 89) g k = ci (-1)
  · rw [if_pos e1]
    exact pk_some (show _ ∧ ∃ k', _ from ⟨rfl, k + 1, by omega, st _ (fun i hi => ⟨fun z => absurd z (bt_0n hi), fun z => absurd e1 z.2⟩), cnu (by omega)⟩)
  · rw [if_neg e1]
    exact pk_some (show _ ∧ ∃ k', _ from ⟨rfl, k + 1, by omega, st _ (fun i hi => by rw [bt_bit k (by omega) i hi]; exact ⟨fun z => ⟨of_decide_eq_true z, e1⟩, fun z => decide_eq_true z.1⟩), cnu (by omega)⟩)
theorem V_nextR {b s : mG} {y : Int64} {m : Nat} {q : Nat → Int32} {v : Int32} (hw : b.1 89 115 = cn m) (hm : m ≤ 6) (e89 : s.1 89 = b.1 89) (hv : LkB q m v) : pk (F_X12_nextOf s y v) (fun u => u = (bsN (wN (b.1 89) y) q m).1) := by
  obtain ⟨z, hz, ez⟩ := lo6 (v := v) (fun i hi h => by have := ((hv i hi).mp h).1; omega)
  unfold F_X12_nextOf F_X12_nextOf_L11
  refine pk_whl (fun w => w.1 = y ∧ w.2.1 = v ∧ ∃ k, k ≤ m ∧ w.2.2.1 = (bsN (wN (b.1 89) y) q k).1 ∧ w.2.2.2.1 = (bsN (wN (b.1 89) y) q k).2 ∧ w.2.2.2.2 = cn k) ⟨rfl, rfl, 0, Nat.zero_le _, rfl, rfl, rfl⟩ (fun w hw2 => ?_)
  obtain ⟨x1, x3, x4, x5, x7⟩ := w
  obtain ⟨q0o, q1o, k, hk, q2o, q3o, q4o⟩ := hw2
  have q0 : x1 = y := q0o
  have q1 : x3 = v := q1o
  have q2 : x4 = (bsN (wN (b.1 89) y) q k).1 := q2o
  have q3 : x5 = (bsN (wN (b.1 89) y) q k).2 := q3o
  have q4 : x7 = cn k := q4o
  unfold F_X12_nextOf_B11 F_X12_nextOf_62
  dsimp only
  rw [q0, q1, q2, q3, q4, e89, hw]
  by_cases hkm : m ≤ k
  · have ek : k = m := by omega
    rw [if_pos ((cn_le (by omega) (by omega)).mpr hkm), ek]
    exact pk_some (show (bsN (wN (b.1 89) y) q m).1 = _ from rfl)
  rw [if_neg (fun z => hkm ((cn_le (by omega) (by omega)).mp z))]
  have bit : (v >>> (cn k &&& 31)) &&& ci 1 = ci 1 ↔ ¬ q k = ci (-1) := by
    rw [ez, sr_6 z hz k (by omega), ← ez, hv k (by omega)]
    exact ⟨fun h => h.2, fun h => ⟨by omega, h⟩⟩
  by_cases e1 : q k = ci (-1)
  · rw [if_neg (fun h => bit.mp h e1)]
    refine pk_b1 (V_worthR (by omega : k < 6)) (fun v4 h4 => ?_)
    rw [e89] at h4
    rw [h4]
    by_cases e2 : (bsN (wN (b.1 89) y) q k).2.toInt < (wN (b.1 89) y k).toInt
    · rw [if_pos ((lg_cmp_gt _ _).mpr (Int64.lt_iff_toInt_lt.mpr e2))]
      refine pk_b1 (V_worthR (by omega : k < 6)) (fun v7 h7 => ?_)
      rw [e89] at h7
      rw [h7]
      exact pk_some (show _ ∧ _ ∧ ∃ k', _ from ⟨rfl, rfl, k + 1, by omega, by rw [bsN_s, if_pos ⟨e1, e2⟩], by rw [bsN_s, if_pos ⟨e1, e2⟩], cnu (by omega)⟩)
    · rw [if_neg (fun h => e2 (Int64.lt_iff_toInt_lt.mp ((lg_cmp_gt _ _).mp h)))]
      exact pk_some (show _ ∧ _ ∧ ∃ k', _ from ⟨rfl, rfl, k + 1, by omega, by rw [bsN_s, if_neg (fun z => e2 z.2)], by rw [bsN_s, if_neg (fun z => e2 z.2)], cnu (by omega)⟩)
  · rw [if_pos (bit.mpr e1)]
    exact pk_some (show _ ∧ _ ∧ ∃ k', _ from ⟨rfl, rfl, k + 1, by omega, by rw [bsN_s, if_neg (fun z => e1 z.1)], by rw [bsN_s, if_neg (fun z => e1 z.1)], cnu (by omega)⟩)
theorem V_signC {a b : mG} {n nc g m : Nat} (hI : IM b) (K : HK (b.1 89) n nc a) (hg : g < n) (h3 : a.1 10 3 = cn m) (hw : b.1 89 115 = cn m) (hm : m ≤ 6) : pk (F_X0_signAt (cn g) (ci 0) a) (fun τ => τ.1 = (bsN (wN (b.1 89) (sureN (b.1 89) m g)) (glw (b.1 89) g) m).1) := by
  unfold F_X0_signAt
  refine pk_b1 (V_glance K hg) (fun u qu => ?_)
  obtain ⟨u1, u2⟩ := qu
  have Ku : HK (b.1 89) n nc u := HK_low K (fun j _ h2 => u2 j (by omega))
  have e10 : u.1 10 3 = cn m := by rw [u2 10 (by decide)]; exact h3
  unfold F_X0_signAt_L7
  refine pk_whl (fun v => v = (cn g, ci 0, ci 0, u)) rfl (fun v hv => ?_)
  rw [hv]
  unfold F_X0_signAt_B7 F_X0_signAt_39
  dsimp only
  rw [if_neg (show ¬ c8 6 ≤ ci 0 by decide)]
  refine pk_b2 (V_byGlance hI Ku hg e10 hm u1) (fun v6 t qt => ?_)
  obtain ⟨t1o, t2o⟩ := qt
  have t1 : Su v6 (sureN (b.1 89) m g) := t1o
  have t2 : ∀ j, j ≠ 69 → j ≠ 70 → t.1 j = u.1 j := t2o
  have HS : TWr 10 2 6 115 ixS t.1 (b.1 89) := TWr_same Ku.1.2.2.2.2.1 (t2 10 (by decide) (by decide)) (t2 11 (by decide) (by decide)) rfl (fun _ _ _ _ => rfl)
  refine pk_b1 (V_bestC (q := glw (b.1 89) g) hI HS (by rw [t2 10 (by decide) (by decide)]; exact e10) hw hm t1 (fun k hk => by rw [t2 74 (by decide) (by decide)]; exact u1 k hk)) (fun v8 h8 => ?_)
  by_cases e : v8 = ci (-1)
  · rw [if_pos e, b1_some]
    exact pk_some (show v8 = _ from h8)
  · rw [if_neg e, if_pos rfl, b1_some]
    exact pk_some (show v8 = _ from h8)
theorem R_next {a b : mG} {x : Int32} (hI : IM b) (h : SIM a b) : rel (F_X11_next x a) (F_X12_next x b) (fun τ υ => τ.1 = υ.1) := by
  obtain ⟨n, nc, m, K, g2, V, hm, h3, hw⟩ := SIM_S h
  have hn := K.2.2.1
  unfold F_X11_next F_X12_next
  rw [V_isGuest, V_isGuestR g2 hn, b1_some, b1_some, show a.1 (1 + 1) 3 = cn n from K.2.1]
  refine rel_ifs Iff.rfl (fun _ => rel_some rfl) (fun hx => ?_)
  obtain ⟨g, hg, ex⟩ := ig_cn (by omega) hx
  rw [ex]
  refine rel_l2 (V_signC hI K hg h3 hw hm) (fun v6 s5 qo => ?_)
  have q : v6 = (bsN (wN (b.1 89) (sureN (b.1 89) m g)) (glw (b.1 89) g) m).1 := qo
  refine rel_r2 (V_sureS K.2.2.2.2 hn hg hw hm rfl) (fun v t qt => ?_)
  obtain ⟨t1o, t2o, _⟩ := qt
  have t1 : v = sureN (b.1 89) m g := t1o
  have t2 : ∀ j, j ≠ 96 → j ≠ 97 → t.1 j = b.1 j := t2o
  have e89 : t.1 89 = b.1 89 := t2 89 (by decide) (by decide)
  refine rel_r1 (V_looked hn hg hw hm e89) (fun v8 h8 => ?_)
  rw [t1]
  refine rel_r1 (V_nextR hw hm e89 h8) (fun v10 h10 => ?_)
  exact rel_some (show v6 = v10 from q.trans h10.symm)
end
end
/-! 5zt1.guests -/
section
noncomputable section
/-! ROOMS AND CALLERS NAME GUESTS OF THE HOUSE -/
def CRw (w : Nat → Int32) : Prop := (∀ k : Nat, k < 8 → (k : Int) < (w 118).toInt → 0 ≤ (w (203 + 4 * k)).toInt ∧ (w (203 + 4 * k)).toInt < (w 112).toInt) ∧ ∀ k : Nat, k < 8 → (k : Int) < (w 1049).toInt → (0 ≤ (w (1870 + 3 * k)).toInt ∧ (w (1870 + 3 * k)).toInt < (w 112).toInt) ∧ (0 ≤ (w (1870 + 3 * k + 1)).toInt ∧ (w (1870 + 3 * k + 1)).toInt ≤ 999) ∧ 0 ≤ (w (1870 + 3 * k + 2)).toInt ∧ (w (1870 + 3 * k + 2)).toInt ≤ 999
def CRs (s : mG) : Prop := CRw (s.1 89) ∧ (s.1 88 4 ≠ 0 → CRw (s.1 90))
theorem SK_112 : SK 112 := Or.inl rfl
theorem SK_118 : SK 118 := Or.inr (Or.inl rfl)
theorem SK_1049 : SK 1049 := Or.inr (Or.inr (Or.inr (Or.inl rfl)))
theorem SK_rm {j : Nat} (h : 203 ≤ j ∧ j ≤ 234) : SK j := Or.inr (Or.inr (Or.inl h))
theorem SK_cl {j : Nat} (h : 1870 ≤ j ∧ j ≤ 1893) : SK j := Or.inr (Or.inr (Or.inr (Or.inr h)))
theorem SK_lt {j : Nat} (h : SK j) : j < 1894 := by
  unfold SK at h
  omega
theorem CRw_of {w v : Nat → Int32} (h : CRw w) (e112 : (w 112).toInt ≤ (v 112).toInt) (e118 : v 118 = w 118) (e1049 : v 1049 = w 1049) (er : ∀ j, 203 ≤ j → j ≤ 234 → v j = w j) (ec : ∀ j, 1870 ≤ j → j ≤ 1893 → v j = w j) : CRw v := by
  obtain ⟨h1, h2⟩ := h
  refine ⟨fun k hk hkn => ?_, fun k hk hkn => ?_⟩
  · rw [e118] at hkn
    rw [er _ (by omega) (by omega)]
    have q := h1 k hk hkn
    exact ⟨q.1, Int.lt_of_lt_of_le q.2 e112⟩
  · rw [e1049] at hkn
    rw [ec _ (by omega) (by omega), ec (1870 + 3 * k + 1) (by omega) (by omega), ec (1870 + 3 * k + 2) (by omega) (by omega)]
    have q := h2 k hk hkn
    exact ⟨⟨q.1.1, Int.lt_of_lt_of_le q.1.2 e112⟩, q.2⟩
theorem CRw_SK {w v : Nat → Int32} (h : CRw w) (e : ∀ j, SK j → v j = w j) : CRw v := CRw_of h (by rw [e 112 SK_112]; exact Int.le_refl _) (e 118 SK_118) (e 1049 SK_1049) (fun j h1 h2 => e j (SK_rm ⟨h1, h2⟩)) (fun j h1 h2 => e j (SK_cl ⟨h1, h2⟩))
theorem CRs_keep {s u : mG} (h : CRs s) (e : ∀ j, SK j → u.1 89 j = s.1 89 j) (e4 : u.1 88 4 = s.1 88 4) (e90 : u.1 90 = s.1 90) : CRs u := by
  refine ⟨CRw_SK h.1 e, ?_⟩
  rw [e4, e90]
  exact h.2
theorem CRs_rows {s u : mG} (h : CRs s) (e : ∀ j, 88 ≤ j → u.1 j = s.1 j) : CRs u := CRs_keep h (fun j _ => by rw [e 89 (by decide)]) (by rw [e 88 (by decide)]) (e 90 (by decide))
theorem CRs_RT {s u : mG} (h : CRs s) (r : RT s u) : CRs u := CRs_keep h (fun j _ => by rw [r.1 89 (by decide) (by decide)]) r.2.2.1 (r.1 90 (by decide) (by decide))
theorem ok_pk {α : Type} {o : Option α} {P : α → Prop} (h : ok o P) : pk o P := fun a e => by
  obtain ⟨x, e1, hx⟩ := h
  rw [e1] at e
  rw [← Option.some.inj e]
  exact hx
/-- those that keep these cells -/
theorem CR_of {α : Type} {G : Option (α × mG)} {M : Nat} {u : mG} (hM : M.testBit 90 = false) (h : CRs u) (h1 : pk G (fun υ => ∀ j, SK j → υ.2.1 89 j = u.1 89 j)) (h2 : pk G (fun υ => KV 88 4 (u.1 88 4) υ.2)) (h3 : pk G (fun υ => KB M u υ.2)) : pk G (fun υ => CRs υ.2) := fun υ e => CRs_keep h (h1 υ e) (h2 υ e) (h3 υ e 90 hM)
theorem CR_guest {a1 a2 : Int32} {u : mG} (hI : IM u) (h : CRs u) {τ : Int32 × mG} (q : GU a1 a2 u τ) (e4 : τ.2.1 88 4 = u.1 88 4) (e90 : τ.2.1 90 = u.1 90) : CRs τ.2 := by
  obtain ⟨_, _, q3, q4⟩ := q
  have i := im_112 hI
  refine ⟨CRw_of h.1 ?_ (q4 118 SK_118 (by decide)) (q4 1049 SK_1049 (by decide)) (fun j h1 h2 => q4 j (SK_rm ⟨h1, h2⟩) (by omega)) (fun j h1 h2 => q4 j (SK_cl ⟨h1, h2⟩) (by omega)), ?_⟩
  · rw [q3]
    unfold gdl
    by_cases c : wi a1 (ci 0) (ci 3) = 0 ∨ wi a2 (ci 0) (c8 99) = 0 ∨ u.1 89 112 = c8 12
    · rw [if_pos c]; exact Int.le_refl _
    · rw [if_neg c, r_add (rfl : (u.1 89 112).toInt = _) (by decide : (ci 1).toInt = 1) (by omega) (by omega)]
      omega
  · rw [e4, e90]
    exact h.2
theorem wi_r {x a b : Int32} {A B : Int} (h : ¬ wi x a b = 0) (ha : a.toInt = A) (hb : b.toInt = B) : A ≤ x.toInt ∧ x.toInt ≤ B := by
  rw [← ha, ← hb]
  exact wi_f h
theorem CR_caller {a1 a2 a3 : Int32} {u : mG} (hI : IM u) (h : CRs u) : pk (F_X12_caller a1 a2 a3 u) (fun τ => CRs τ.2) := by
  obtain ⟨n, hn, eN⟩ : ∃ n : Nat, n ≤ 12 ∧ u.1 89 112 = cn n := ⟨(u.1 89 112).toInt.toNat, by have := im_112 hI; omega, cnof (im_112 hI).1⟩
  obtain ⟨m, hm, eM⟩ : ∃ m : Nat, m ≤ 8 ∧ u.1 89 1049 = cn m := ⟨(u.1 89 1049).toInt.toNat, by have := im_1049 hI; omega, cnof (im_1049 hI).1⟩
  unfold F_X12_caller F_X12_caller_59
  refine pk_li (fun _ => pk_some (show CRs _ from ?_)) (fun _ => ?_)
  · refine ⟨⟨fun k hk hkn => ?_, fun k hk hkn => ?_⟩, h.2⟩
    · have e : ∀ j, j ≠ 1049 → mu u.1 89 1049 (ci 0) 89 j = u.1 89 j := fun j hj => mu_cell (Or.inr hj)
      have hkn : (k : Int) < (mu u.1 89 1049 (ci 0) 89 118).toInt := hkn
      show 0 ≤ (mu u.1 89 1049 (ci 0) 89 (203 + 4 * k)).toInt ∧ (mu u.1 89 1049 (ci 0) 89 (203 + 4 * k)).toInt < (mu u.1 89 1049 (ci 0) 89 112).toInt
      rw [e 118 (by omega)] at hkn
      rw [e _ (by omega), e 112 (by omega)]
      exact h.1.1 k hk hkn
    · exact absurd hkn (by show ¬ (k : Int) < (ci 0).toInt; rw [show (ci 0).toInt = 0 by decide]; omega)
  rw [V_isGuestR eN hn, b1_some]
  refine pk_li (fun _ => pk_some (show CRs u from h)) (fun c1 => ?_)
  obtain ⟨g, hg, ex⟩ := ig_cn (by omega) c1
  rw [F_isIn, b1_some]
  refine pk_li (fun _ => pk_some (show CRs u from h)) (fun c2 => ?_)
  rw [F_isIn, b1_some]
  refine pk_li (fun _ => pk_some (show CRs u from h)) (fun c3 => ?_)
  refine pk_li (fun _ => pk_some (show CRs u from h)) (fun c4 => ?_)
  have r2 := wi_r c2 (by decide : (ci 0).toInt = 0) (by decide : (c16 999).toInt = 999)
  have r3 := wi_r c3 (by decide : (ci 0).toInt = 0) (by decide : (c16 999).toInt = 999)
  dsimp only
  rw [eM] at c4 ⊢
  have m8 : m < 8 := by
    refine Nat.lt_of_not_le (fun q => c4 ?_)
    rw [show m = 8 by omega]
    decide
  rw [show ci 3 * cn m = cn (3 * m) from cn_mul (a := 3) (by omega) (by omega) (by omega), show c16 1870 + cn (3 * m) = cn (1870 + 3 * m) from cn_add (a := 1870) (by omega), show cn (1870 + 3 * m) + ci 1 = cn (1870 + 3 * m + 1) from cn_add (b := 1) (by omega), show cn (1870 + 3 * m) + ci 2 = cn (1870 + 3 * m + 2) from cn_add (b := 2) (by omega), cn_nat (n := 1870 + 3 * m) (by omega), cn_nat (n := 1870 + 3 * m + 1) (by omega), cn_nat (n := 1870 + 3 * m + 2) (by omega)]
  refine pk_nn (pk_nn (pk_nn (pk_some ?_)))
  have z : ∀ j, j ≠ 1870 + 3 * m → j ≠ 1870 + 3 * m + 1 → j ≠ 1870 + 3 * m + 2 → mu (mu (mu u.1 89 (1870 + 3 * m) a1) 89 (1870 + 3 * m + 1) a2) 89 (1870 + 3 * m + 2) a3 89 j = u.1 89 j := fun j h1 h2 h3 => by
    rw [mu_cell (Or.inr h3), mu_cell (Or.inr h2), mu_cell (Or.inr h1)]
  have z0 : mu (mu (mu u.1 89 (1870 + 3 * m) a1) 89 (1870 + 3 * m + 1) a2) 89 (1870 + 3 * m + 2) a3 89 (1870 + 3 * m) = a1 := by
    rw [mu_cell (Or.inr (by omega)), mu_cell (Or.inr (by omega)), mu_same]
  have z1 : mu (mu (mu u.1 89 (1870 + 3 * m) a1) 89 (1870 + 3 * m + 1) a2) 89 (1870 + 3 * m + 2) a3 89 (1870 + 3 * m + 1) = a2 := by
    rw [mu_cell (Or.inr (by omega)), mu_same]
  have z2 : mu (mu (mu u.1 89 (1870 + 3 * m) a1) 89 (1870 + 3 * m + 1) a2) 89 (1870 + 3 * m + 2) a3 89 (1870 + 3 * m + 2) = a3 := mu_same
  have zr : ∀ j, j ≠ 89 → mu (mu (mu u.1 89 (1870 + 3 * m) a1) 89 (1870 + 3 * m + 1) a2) 89 (1870 + 3 * m + 2) a3 j = u.1 j := fun j hj => by
    rw [mu_row hj, mu_row hj, mu_row hj]
  show CRs (mu (mu (mu (mu u.1 89 (1870 + 3 * m) a1) 89 (1870 + 3 * m + 1) a2) 89 (1870 + 3 * m + 2) a3) 89 1049 (mu (mu (mu u.1 89 (1870 + 3 * m) a1) 89 (1870 + 3 * m + 1) a2) 89 (1870 + 3 * m + 2) a3 89 1049 + ci 1), u.2)
  generalize mu (mu (mu u.1 89 (1870 + 3 * m) a1) 89 (1870 + 3 * m + 1) a2) 89 (1870 + 3 * m + 2) a3 = D at z z0 z1 z2 zr ⊢
  have y : ∀ j, j ≠ 1049 → mu D 89 1049 (D 89 1049 + ci 1) 89 j = D 89 j := fun j hj => mu_cell (Or.inr hj)
  have y1 : mu D 89 1049 (D 89 1049 + ci 1) 89 1049 = cn (m + 1) := by
    rw [mu_same, z 1049 (by omega) (by omega) (by omega), eM]
    exact cnu (by omega)
  have yr : ∀ j, j ≠ 89 → mu D 89 1049 (D 89 1049 + ci 1) j = u.1 j := fun j hj => (mu_row hj).trans (zr j hj)
  generalize mu D 89 1049 (D 89 1049 + ci 1) = E at y y1 yr ⊢
  have x : ∀ j, j ≠ 1049 → j ≠ 1870 + 3 * m → j ≠ 1870 + 3 * m + 1 → j ≠ 1870 + 3 * m + 2 → E 89 j = u.1 89 j := fun j h0 h1 h2 h3 => (y j h0).trans (z j h1 h2 h3)
  obtain ⟨⟨h1, h2⟩, h3⟩ := h
  refine ⟨⟨fun k hk hkn => ?_, fun k hk hkn => ?_⟩, ?_⟩
  · have hkn : (k : Int) < (E 89 118).toInt := hkn
    show 0 ≤ (E 89 (203 + 4 * k)).toInt ∧ (E 89 (203 + 4 * k)).toInt < (E 89 112).toInt
    rw [x 118 (by omega) (by omega) (by omega) (by omega)] at hkn
    rw [x (203 + 4 * k) (by omega) (by omega) (by omega) (by omega), x 112 (by omega) (by omega) (by omega) (by omega)]
    exact h1 k hk hkn
  · have hkn : (k : Int) < (E 89 1049).toInt := hkn
    show (0 ≤ (E 89 (1870 + 3 * k)).toInt ∧ (E 89 (1870 + 3 * k)).toInt < (E 89 112).toInt) ∧ (0 ≤ (E 89 (1870 + 3 * k + 1)).toInt ∧ (E 89 (1870 + 3 * k + 1)).toInt ≤ 999) ∧ 0 ≤ (E 89 (1870 + 3 * k + 2)).toInt ∧ (E 89 (1870 + 3 * k + 2)).toInt ≤ 999
    rw [y1, t_cn (by omega)] at hkn
    rw [x 112 (by omega) (by omega) (by omega) (by omega)]
    by_cases e : k = m
    · rw [e, y _ (by omega), z0, y _ (by omega), z1, y _ (by omega), z2, ex, eN, t_cn (by omega), t_cn (by omega)]
      exact ⟨⟨by omega, by omega⟩, r2, r3⟩
    · rw [x (1870 + 3 * k) (by omega) (by omega) (by omega) (by omega), x (1870 + 3 * k + 1) (by omega) (by omega) (by omega) (by omega), x (1870 + 3 * k + 2) (by omega) (by omega) (by omega) (by omega)]
      exact h2 k hk (by rw [eM, t_cn (by omega)]; omega)
  · show E 88 4 ≠ 0 → CRw (E 90)
    rw [yr 88 (by decide), yr 90 (by decide)]
    exact h3
theorem CR_room {a1 a2 a3 a4 : Int32} {u : mG} (hI : IM u) (h : CRs u) : pk (F_X12_room a1 a2 a3 a4 u) (fun τ => CRs τ.2) := by
  obtain ⟨n, hn, eN⟩ : ∃ n : Nat, n ≤ 12 ∧ u.1 89 112 = cn n := ⟨(u.1 89 112).toInt.toNat, by have := im_112 hI; omega, cnof (im_112 hI).1⟩
  obtain ⟨m, hm, eM⟩ : ∃ m : Nat, m ≤ 8 ∧ u.1 89 118 = cn m := ⟨(u.1 89 118).toInt.toNat, by have := im_118 hI; omega, cnof (im_118 hI).1⟩
  unfold F_X12_room F_X12_room_67
  refine pk_li (fun _ => pk_some (show CRs _ from ?_)) (fun _ => ?_)
  · refine ⟨⟨fun k hk hkn => ?_, fun k hk hkn => ?_⟩, h.2⟩
    · exact absurd hkn (by show ¬ (k : Int) < (ci 0).toInt; rw [show (ci 0).toInt = 0 by decide]; omega)
    · have e : ∀ j, j ≠ 118 → mu u.1 89 118 (ci 0) 89 j = u.1 89 j := fun j hj => mu_cell (Or.inr hj)
      have hkn : (k : Int) < (mu u.1 89 118 (ci 0) 89 1049).toInt := hkn
      show (0 ≤ (mu u.1 89 118 (ci 0) 89 (1870 + 3 * k)).toInt ∧ (mu u.1 89 118 (ci 0) 89 (1870 + 3 * k)).toInt < (mu u.1 89 118 (ci 0) 89 112).toInt) ∧ (0 ≤ (mu u.1 89 118 (ci 0) 89 (1870 + 3 * k + 1)).toInt ∧ (mu u.1 89 118 (ci 0) 89 (1870 + 3 * k + 1)).toInt ≤ 999) ∧ 0 ≤ (mu u.1 89 118 (ci 0) 89 (1870 + 3 * k + 2)).toInt ∧ (mu u.1 89 118 (ci 0) 89 (1870 + 3 * k + 2)).toInt ≤ 999
      rw [e 1049 (by omega)] at hkn
      rw [e (1870 + 3 * k) (by omega), e (1870 + 3 * k + 1) (by omega), e (1870 + 3 * k + 2) (by omega), e 112 (by omega)]
      exact h.1.2 k hk hkn
  rw [V_isGuestR eN hn, b1_some]
  refine pk_li (fun _ => pk_some (show CRs u from h)) (fun c1 => ?_)
  obtain ⟨g, hg, ex⟩ := ig_cn (by omega) c1
  rw [F_isIn, b1_some]
  refine pk_li (fun _ => pk_some (show CRs u from h)) (fun c2 => ?_)
  rw [F_isIn, b1_some]
  refine pk_li (fun _ => pk_some (show CRs u from h)) (fun c3 => ?_)
  rw [F_isIn, b1_some]
  refine pk_li (fun _ => pk_some (show CRs u from h)) (fun c5 => ?_)
  refine pk_li (fun _ => pk_some (show CRs u from h)) (fun c4 => ?_)
  dsimp only
  rw [eM] at c4 ⊢
  have m8 : m < 8 := by
    refine Nat.lt_of_not_le (fun q => c4 ?_)
    rw [show m = 8 by omega]
    decide
  rw [show ci 4 * cn m = cn (4 * m) from cn_mul (a := 4) (by omega) (by omega) (by omega), show c16 203 + cn (4 * m) = cn (203 + 4 * m) by rw [show c16 203 = cn 203 by decide]; exact cn_add (by omega), show cn (203 + 4 * m) + ci 0 = cn (203 + 4 * m) from Int32.add_zero _, show cn (203 + 4 * m) + ci 1 = cn (203 + 4 * m + 1) from cn_add (b := 1) (by omega), show cn (203 + 4 * m) + ci 2 = cn (203 + 4 * m + 2) from cn_add (b := 2) (by omega), show cn (203 + 4 * m) + ci 3 = cn (203 + 4 * m + 3) from cn_add (b := 3) (by omega), cn_nat (n := 203 + 4 * m) (by omega), cn_nat (n := 203 + 4 * m + 1) (by omega), cn_nat (n := 203 + 4 * m + 2) (by omega), cn_nat (n := 203 + 4 * m + 3) (by omega)]
  refine pk_nn (pk_nn (pk_nn (pk_nn (pk_some ?_))))
  have z : ∀ j, j ≠ 203 + 4 * m → j ≠ 203 + 4 * m + 1 → j ≠ 203 + 4 * m + 2 → j ≠ 203 + 4 * m + 3 → mu (mu (mu (mu u.1 89 (203 + 4 * m) a1) 89 (203 + 4 * m + 1) a2) 89 (203 + 4 * m + 2) a3) 89 (203 + 4 * m + 3) a4 89 j = u.1 89 j := fun j h1 h2 h3 h4 => by
    rw [mu_cell (Or.inr h4), mu_cell (Or.inr h3), mu_cell (Or.inr h2), mu_cell (Or.inr h1)]
  have z0 : mu (mu (mu (mu u.1 89 (203 + 4 * m) a1) 89 (203 + 4 * m + 1) a2) 89 (203 + 4 * m + 2) a3) 89 (203 + 4 * m + 3) a4 89 (203 + 4 * m) = a1 := by
    rw [mu_cell (Or.inr (by omega)), mu_cell (Or.inr (by omega)), mu_cell (Or.inr (by omega)), mu_same]
  have zr : ∀ j, j ≠ 89 → mu (mu (mu (mu u.1 89 (203 + 4 * m) a1) 89 (203 + 4 * m + 1) a2) 89 (203 + 4 * m + 2) a3) 89 (203 + 4 * m + 3) a4 j = u.1 j := fun j hj => by
    rw [mu_row hj, mu_row hj, mu_row hj, mu_row hj]
  show CRs (mu (mu (mu (mu (mu u.1 89 (203 + 4 * m) a1) 89 (203 + 4 * m + 1) a2) 89 (203 + 4 * m + 2) a3) 89 (203 + 4 * m + 3) a4) 89 118 (mu (mu (mu (mu u.1 89 (203 + 4 * m) a1) 89 (203 + 4 * m + 1) a2) 89 (203 + 4 * m + 2) a3) 89 (203 + 4 * m + 3) a4 89 118 + ci 1), u.2)
  generalize mu (mu (mu (mu u.1 89 (203 + 4 * m) a1) 89 (203 + 4 * m + 1) a2) 89 (203 + 4 * m + 2) a3) 89 (203 + 4 * m + 3) a4 = D at z z0 zr ⊢
  have y : ∀ j, j ≠ 118 → mu D 89 118 (D 89 118 + ci 1) 89 j = D 89 j := fun j hj => mu_cell (Or.inr hj)
  have y1 : mu D 89 118 (D 89 118 + ci 1) 89 118 = cn (m + 1) := by
    rw [mu_same, z 118 (by omega) (by omega) (by omega) (by omega), eM]
    exact cnu (by omega)
  have yr : ∀ j, j ≠ 89 → mu D 89 118 (D 89 118 + ci 1) j = u.1 j := fun j hj => (mu_row hj).trans (zr j hj)
  generalize mu D 89 118 (D 89 118 + ci 1) = E at y y1 yr ⊢
  have x : ∀ j, j ≠ 118 → j ≠ 203 + 4 * m → j ≠ 203 + 4 * m + 1 → j ≠ 203 + 4 * m + 2 → j ≠ 203 + 4 * m + 3 → E 89 j = u.1 89 j := fun j h0 h1 h2 h3 h4 => (y j h0).trans (z j h1 h2 h3 h4)
  obtain ⟨⟨h1, h2⟩, h3⟩ := h
  refine ⟨⟨fun k hk hkn => ?_, fun k hk hkn => ?_⟩, ?_⟩
  · have hkn : (k : Int) < (E 89 118).toInt := hkn
    show 0 ≤ (E 89 (203 + 4 * k)).toInt ∧ (E 89 (203 + 4 * k)).toInt < (E 89 112).toInt
    rw [y1, t_cn (by omega)] at hkn
    rw [x 112 (by omega) (by omega) (by omega) (by omega) (by omega)]
    by_cases e : k = m
    · rw [e, y _ (by omega), z0, ex, eN, t_cn (by omega), t_cn (by omega)]
      exact ⟨by omega, by omega⟩
    · rw [x (203 + 4 * k) (by omega) (by omega) (by omega) (by omega) (by omega)]
      exact h1 k hk (by rw [eM, t_cn (by omega)]; omega)
  · have hkn : (k : Int) < (E 89 1049).toInt := hkn
    show (0 ≤ (E 89 (1870 + 3 * k)).toInt ∧ (E 89 (1870 + 3 * k)).toInt < (E 89 112).toInt) ∧ (0 ≤ (E 89 (1870 + 3 * k + 1)).toInt ∧ (E 89 (1870 + 3 * k + 1)).toInt ≤ 999) ∧ 0 ≤ (E 89 (1870 + 3 * k + 2)).toInt ∧ (E 89 (1870 + 3 * k + 2)).toInt ≤ 999
    rw [x 1049 (by omega) (by omega) (by omega) (by omega) (by omega)] at hkn
    rw [x 112 (by omega) (by omega) (by omega) (by omega) (by omega), x (1870 + 3 * k) (by omega) (by omega) (by omega) (by omega) (by omega), x (1870 + 3 * k + 1) (by omega) (by omega) (by omega) (by omega) (by omega), x (1870 + 3 * k + 2) (by omega) (by omega) (by omega) (by omega) (by omega)]
    exact h2 k hk hkn
  · show E 88 4 ≠ 0 → CRw (E 90)
    rw [yr 88 (by decide), yr 90 (by decide)]
    exact h3
theorem CR_image {a1 : Int32} {u : mG} (h : CRs u) : pk (F_X12_image a1 u) (fun τ => CRs τ.2) := by
  unfold F_X12_image
  have tk : ¬ a1 = 0 → pk (F_X12_image_13 a1 u) (fun τ => CRs τ.2) := fun ha τ hτ => by
    obtain ⟨_, _, q3, q4⟩ := V_X12_take ha τ hτ
    exact ⟨by rw [q3]; exact h.1, fun _ => CRw_SK h.1 (fun j hj => q4 j (SK_lt hj))⟩
  refine pk_li (fun ha => ?_) tk
  rw [show a1 = ci 0 from ha.trans (by decide)]
  refine pk_li (fun _ => pk_some (show CRs u from h)) (fun h4 τ hτ => ?_)
  obtain ⟨_, _, q3, q4⟩ := V_X12_give τ hτ
  have hb := h.2 h4
  exact ⟨CRw_SK hb (fun j hj => q4 j (SK_lt hj)), fun _ => by rw [q3]; exact hb⟩
/-! what stands between calls, with these -/
def JSx (s : mG) : Prop := JS s ∧ CRs s
theorem CRs_s0 : CRs s0 := by
  have c : ∀ k ∈ ([2, 112, 115, 116, 117, 118, 1049] : List Nat), s0.1 89 k = 0 := s0_cnts
  refine ⟨⟨fun k hk hkn => absurd hkn ?_, fun k hk hkn => absurd hkn ?_⟩, fun q => absurd s0_sim1.2.1 q⟩
  · rw [c 118 (by decide), t_zero]; omega
  · rw [c 1049 (by decide), t_zero]; omega
theorem P4x_of {α β : Type} {F : mG → Option (α × mG)} {G : mG → Option (β × mG)} {E : α × mG → β × mG → Prop} {s : mG} (h : JSx s) (hP : ok (F s) (fun τ => ok (G τ.2) (fun υ => JS υ.2 ∧ E τ υ))) (hC : ok (F s) (fun τ => IM τ.2 ∧ ∀ j, 88 ≤ j → τ.2.1 j = s.1 j)) (hM : ∀ u, IM u → CRs u → pk (G u) (fun υ => CRs υ.2)) : ok (F s) (fun τ => ok (G τ.2) (fun υ => JSx υ.2 ∧ E τ υ)) := by
  obtain ⟨τ, e1, υ, e2, q1, q2⟩ := hP
  obtain ⟨c1, c2⟩ := ok_pk hC τ e1
  exact ⟨τ, e1, υ, e2, ⟨q1, hM τ.2 c1 (CRs_rows h.2 c2) υ e2⟩, q2⟩
theorem P5x_of {F G : mG → Option (Int32 × mG)} {s : mG} (h : JSx s) (hC : ok (F s) (fun τ => JSx τ.2 ∧ ∀ j, 88 ≤ j → τ.2.1 j = s.1 j)) (hM : ∀ u, JSx u → ok (G u) (fun υ => JSx υ.2)) (hR : ∀ u, IM u → CRs u → SIM s u → rel (F s) (G u) (fun τ υ => τ.1 = υ.1)) : ok (F s) (fun τ => ok (G τ.2) (fun υ => JSx υ.2 ∧ τ.1 = υ.1)) := by
  obtain ⟨τ, e1, k1, k2⟩ := hC
  obtain ⟨υ, e2, m1⟩ := hM τ.2 k1
  exact ⟨τ, e1, υ, e2, m1, hR τ.2 k1.1.1.2.1 k1.2 (SIM_C h.1.2 (fun _ _ => rfl) k2) τ e1 υ e2⟩
end
end
/-! 5zt2.said -/
section
noncomputable section
/-! WHAT TO SAY TO ALL -/
theorem V_atC {w : Nat → Int32} {s : mG} {n r c : Nat} {k : Int32} (hC : TWr 16 3 8 1049 ixC s.1 w) (h3 : s.1 16 3 = cn n) (hn : n ≤ 8) (hr : r < n) (hc : c < 3) (hk : k = cn c) : F_X10_at 16 s (cn r) k = some (w (ixC r c)) := TWr_at hC h3 hn hr hc rfl hk (by decide) (by rw [al_17]; decide)
theorem V_atR {w : Nat → Int32} {s : mG} {n r c : Nat} {k : Int32} (hC : TWr 14 4 8 118 ixR s.1 w) (h3 : s.1 14 3 = cn n) (hn : n ≤ 8) (hr : r < n) (hc : c < 4) (hk : k = cn c) : F_X10_at 14 s (cn r) k = some (w (ixR r c)) := TWr_at hC h3 hn hr hc rfl hk (by decide) (by rw [al_15]; decide)
theorem ig_in {g n : Nat} (hg : g < n) (hn : n < 2147483648) : ¬ ig (cn g) (cn n) = 0 := by
  unfold ig
  rw [if_neg (cn_nn (by omega)), if_neg (fun q => by have := (cn_le (by omega) (by omega)).mp q; omega)]
  exact c1n0
theorem V_sayR {b t : mG} {n nc g m : Nat} {p q : Int32} (L : LTy nc (b.1 89)) (g2 : b.1 89 112 = cn n) (hn : n ≤ 12) (hg : g < n) (hw : b.1 89 115 = cn m) (hm : m ≤ 6) (e : t.1 89 = b.1 89) (hp : 0 ≤ p.toInt ∧ p.toInt ≤ 999) (hq : 0 ≤ q.toInt ∧ q.toInt ≤ 999) : pk (F_X12_say (cn g) p q t) (fun τ => τ.1 = sayB (sureN (b.1 89) m g) p q ∧ ∀ j, j ≠ 96 → j ≠ 97 → τ.2.1 j = t.1 j) := by
  unfold F_X12_say
  have z0 : (ci 0).toInt = 0 := by decide
  have z9 : (c16 9999).toInt = 9999 := by decide
  rw [V_isGuestR (by rw [e]; exact g2) hn, b1_some, if_neg (ig_in hg (by omega)), V_isCost, b1_some, wi_in (by rw [z0]; exact hp.1) (by rw [z9]; exact Int.le_trans hp.2 (by decide)), if_neg c1n0, V_isCost, b1_some, wi_in (by rw [z0]; exact hq.1) (by rw [z9]; exact Int.le_trans hq.2 (by decide)), if_neg c1n0]
  refine pk_b2 (V_sureS L hn hg hw hm e) (fun v12 s11 qt => ?_)
  obtain ⟨t1o, t2o, _⟩ := qt
  have t1 : v12 = sureN (b.1 89) m g := t1o
  have t2 : ∀ j, j ≠ 96 → j ≠ 97 → s11.1 j = t.1 j := t2o
  rw [t1]
  unfold sayB
  by_cases hc : 0 < lg_cmp ((cl 1000000 - sureN (b.1 89) m g) * p.toInt64) (sureN (b.1 89) m g * q.toInt64)
  · rw [if_pos hc]
    exact pk_some (show ci 0 = _ ∧ _ from ⟨by rw [if_pos hc], t2⟩)
  · rw [if_neg hc]
    exact pk_some (show ci 1 = _ ∧ _ from ⟨by rw [if_neg hc], t2⟩)
theorem V_share {s : mG} {x y : Int32} : F_X11_share s x y = some ((x.toInt64 * y.toInt64) / cl 1000000).toInt32 := rfl
theorem R_saidL {a b : mG} {n nc m mc : Nat} {x : Int32} (hI : IM b) (hC : CRs b) (K : HK (b.1 89) n nc a) (g2 : b.1 89 112 = cn n) (hm : m ≤ 6) (h3 : a.1 10 3 = cn m) (hw : b.1 89 115 = cn m) (hmc : mc ≤ 8) (h16 : a.1 16 3 = cn mc) (hwc : b.1 89 1049 = cn mc) : rel (F_X0_saidToAll_L7 x (ci 0) (ci 0) (ci 0) a) (F_X12_said_L18 x (ci 0) (ci 0) (ci 0) b) (fun τ υ => τ.1 = υ.1) := by
  have hn := K.2.2.1
  unfold F_X0_saidToAll_L7 F_X12_said_L18
  refine rel_whl (fun v w => ∃ (k : Nat) (p q : Int32) (s t : mG), k ≤ mc ∧ v = (x, p, q, cn k, s) ∧ w = (x, p, q, cn k, t) ∧ (∀ j, j ≠ 69 → j ≠ 70 → j ≠ 74 → s.1 j = a.1 j) ∧ ∀ j, j ≠ 96 → j ≠ 97 → t.1 j = b.1 j) ⟨0, ci 0, ci 0, a, b, Nat.zero_le _, rfl, rfl, fun _ _ _ _ => rfl, fun _ _ _ => rfl⟩ (fun v w hvw => ?_)
  obtain ⟨k, p, q, s, t, hk, ev, ew, rs, rt⟩ := hvw
  rw [ev, ew]
  have Ks : HK (b.1 89) n nc s := HK_low K (fun j h1 h2 => rs j (by omega) (by omega) (by omega))
  have e89 : t.1 89 = b.1 89 := rt 89 (by decide) (by decide)
  have s16 : s.1 16 3 = cn mc := by rw [rs 16 (by decide) (by decide) (by decide)]; exact h16
  unfold F_X0_saidToAll_B7 F_X12_said_B18
  dsimp only
  rw [s16, e89, hwc]
  by_cases hkm : mc ≤ k
  · rw [if_pos ((cn_le (by omega) (by omega)).mpr hkm), if_pos ((cn_le (by omega) (by omega)).mpr hkm)]
    exact rel_ifs Iff.rfl (fun _ => rel_some (show p = p from rfl)) (fun _ => rel_some (show q = q from rfl))
  have cr := hC.1.2 k (by omega) (by rw [hwc, t_cn (by omega)]; omega)
  obtain ⟨⟨c1, c2⟩, c3, c4⟩ := cr
  rw [g2, t_cn (by omega)] at c2
  obtain ⟨g, hg, eg⟩ : ∃ g : Nat, g < n ∧ b.1 89 (1870 + 3 * k) = cn g := ⟨(b.1 89 (1870 + 3 * k)).toInt.toNat, by omega, cnof c1⟩
  rw [if_neg (fun q => hkm ((cn_le (by omega) (by omega)).mp q)), if_neg (fun q => hkm ((cn_le (by omega) (by omega)).mp q)), V_atC (c := 0) (k := ci 0) Ks.1.2.2.2.2.2.2.2.1 s16 hmc (by omega) (by decide) rfl, b1_some, show ixC k 0 = 1870 + 3 * k from rfl, eg, show ci 3 * cn k = cn (3 * k) from cn_mul (a := 3) (by omega) (by omega) (by omega), show c16 1870 + cn (3 * k) = cn (1870 + 3 * k) from cn_add (a := 1870) (by omega), show cn (1870 + 3 * k) + ci 1 = cn (1870 + 3 * k + 1) from cn_add (b := 1) (by omega), show cn (1870 + 3 * k) + ci 2 = cn (1870 + 3 * k + 2) from cn_add (b := 2) (by omega), cn_nat (n := 1870 + 3 * k) (by omega), cn_nat (n := 1870 + 3 * k + 1) (by omega), cn_nat (n := 1870 + 3 * k + 2) (by omega), eg]
  refine rel_l2 (V_sureC hI Ks hg (by rw [rs 10 (by decide) (by decide) (by decide)]; exact h3) hm) (fun v7 s6 qt => ?_)
  obtain ⟨t1o, _, t2o⟩ := qt
  have t1 : Su v7 (sureN (b.1 89) m g) := t1o
  have t2 : ∀ j, j ≠ 69 → j ≠ 70 → j ≠ 74 → s6.1 j = s.1 j := t2o
  have r6 : ∀ j, j ≠ 69 → j ≠ 70 → j ≠ 74 → s6.1 j = a.1 j := fun j h1 h2 h3 => (t2 j h1 h2 h3).trans (rs j h1 h2 h3)
  have K6 : HK (b.1 89) n nc s6 := HK_low K (fun j h1 h2 => r6 j (by omega) (by omega) (by omega))
  have s616 : s6.1 16 3 = cn mc := by rw [r6 16 (by decide) (by decide) (by decide)]; exact h16
  rw [V_atC (c := 1) (k := ci 1) K6.1.2.2.2.2.2.2.2.1 s616 hmc (by omega) (by decide) rfl, b1_some, V_atC (c := 2) (k := ci 2) K6.1.2.2.2.2.2.2.2.1 s616 hmc (by omega) (by decide) rfl, b1_some, show ixC k 1 = 1870 + 3 * k + 1 from rfl, show ixC k 2 = 1870 + 3 * k + 2 from rfl, V_bestSaid, b1_some, ← t1.1]
  refine rel_rg (rel_rg (rel_rg ?_))
  refine rel_r2 (V_sayR K.2.2.2.2 g2 hn hg hw hm e89 c3 c4) (fun v12 s11 qs => ?_)
  obtain ⟨w1o, w2o⟩ := qs
  have w1 : v12 = sayB (sureN (b.1 89) m g) (b.1 89 (1870 + 3 * k + 1)) (b.1 89 (1870 + 3 * k + 2)) := w1o
  have w2 : ∀ j, j ≠ 96 → j ≠ 97 → s11.1 j = t.1 j := w2o
  have f89 : s11.1 89 = b.1 89 := (w2 89 (by decide) (by decide)).trans e89
  have on : ∀ (p' q' : Int32) (s1 t1 : mG), (∀ j, j ≠ 69 → j ≠ 70 → j ≠ 74 → s1.1 j = a.1 j) → (∀ j, j ≠ 96 → j ≠ 97 → t1.1 j = b.1 j) → ∃ (k' : Nat) (p q : Int32) (s t : mG), k' ≤ mc ∧ ((x, p', q', cn k + ci 1, s1) : Int32 × Int32 × Int32 × Int32 × mG) = (x, p, q, cn k', s) ∧ ((x, p', q', cn k + ci 1, t1) : Int32 × Int32 × Int32 × Int32 × mG) = (x, p, q, cn k', t) ∧ (∀ j, j ≠ 69 → j ≠ 70 → j ≠ 74 → s.1 j = a.1 j) ∧ ∀ j, j ≠ 96 → j ≠ 97 → t.1 j = b.1 j := fun p' q' s1 t1 h1 h2 => ⟨k + 1, p', q', s1, t1, by omega, by rw [cnu (by omega)], by rw [cnu (by omega)], h1, h2⟩
  unfold F_X12_said_79 F_X12_said_108 F_X12_said_149 F_X0_saidToAll_97 F_X0_saidToAll_125
  rw [f89, cn_nat (n := 1870 + 3 * k) (by omega), eg]
  have hz := sayB_r (y := sureN (b.1 89) m g) (p := b.1 89 (1870 + 3 * k + 1)) (q := b.1 89 (1870 + 3 * k + 2))
  generalize sayB (sureN (b.1 89) m g) (b.1 89 (1870 + 3 * k + 1)) (b.1 89 (1870 + 3 * k + 2)) = z at w1 hz ⊢
  have n01 : ¬ ci 0 = ci 1 := by decide
  rcases hz with ez | ez
  · rw [w1, ez, if_pos c0e0, if_pos c0e0, if_neg n01, V_share, b1_some, ← t1.1]
    refine rel_rg (rel_r2 (V_sureS K.2.2.2.2 hn hg hw hm f89) (fun v17 s16 qr => ?_))
    obtain ⟨y1o, y2o, _⟩ := qr
    have y1 : v17 = sureN (b.1 89) m g := y1o
    have y2 : ∀ j, j ≠ 96 → j ≠ 97 → s16.1 j = s11.1 j := y2o
    have r16 : ∀ j, j ≠ 96 → j ≠ 97 → s16.1 j = b.1 j := fun j h1 h2 => (y2 j h1 h2).trans ((w2 j h1 h2).trans (rt j h1 h2))
    rw [if_pos c0e0, if_pos c0e0, y1, r16 89 (by decide) (by decide), show cn (1870 + 3 * k) + ci 2 = cn (1870 + 3 * k + 2) from cn_add (b := 2) (by omega), cn_nat (n := 1870 + 3 * k + 2) (by omega), Int64.mul_comm (sureN (b.1 89) m g)]
    exact rel_rg (rel_some (on _ _ _ _ r6 r16))
  · rw [w1, ez, if_neg c1n0, if_neg c1n0, if_pos rfl, V_share, b1_some, x64_sub t1.2, ← t1.1]
    refine rel_rg (rel_r2 (V_sureS K.2.2.2.2 hn hg hw hm f89) (fun v17 s16 qr => ?_))
    obtain ⟨y1o, y2o, _⟩ := qr
    have y1 : v17 = sureN (b.1 89) m g := y1o
    have y2 : ∀ j, j ≠ 96 → j ≠ 97 → s16.1 j = s11.1 j := y2o
    have r16 : ∀ j, j ≠ 96 → j ≠ 97 → s16.1 j = b.1 j := fun j h1 h2 => (y2 j h1 h2).trans ((w2 j h1 h2).trans (rt j h1 h2))
    rw [if_neg c1n0, if_neg c1n0, y1, r16 89 (by decide) (by decide), show cn (1870 + 3 * k) + ci 1 = cn (1870 + 3 * k + 1) from cn_add (b := 1) (by omega), cn_nat (n := 1870 + 3 * k + 1) (by omega), Int64.mul_comm (cl 1000000 - sureN (b.1 89) m g)]
    exact rel_rg (rel_some (on _ _ _ _ r6 r16))
theorem R_said {a b : mG} {x : Int32} (hI : IM b) (hC : CRs b) (h : SIM a b) : rel (F_X11_said x a) (F_X12_said x b) (fun τ υ => τ.1 = υ.1) := by
  obtain ⟨n, nc, m, K, g2, V, hm, h3, hw⟩ := SIM_S h
  obtain ⟨_, _, mc, hmc, gc, gw, _⟩ := K.1.2.2.2.2.2.2.2.1
  have R := R_saidL (x := x) hI hC K g2 hm h3 hw hmc gc gw
  unfold F_X11_said F_X12_said F_X11_said_23 F_X0_saidToAll
  rw [V_within, F_isIn, b1_some, b1_some]
  refine rel_ifs Iff.rfl (fun _ => rel_some rfl) (fun hx => ?_)
  obtain ⟨c, hc, ey⟩ := wi_cn (l := 1) (by omega) hx
  rcases (show c = 0 ∨ c = 1 by omega) with e | e <;> rw [e] at ey
  · rw [if_neg (show ¬ x = ci 1 by rw [ey]; decide), b2_id]
    rw [show x = ci 0 from ey] at R ⊢
    exact R
  · rw [if_pos (show x = ci 1 from ey), b2_id]
    rw [show x = ci 1 from ey] at R ⊢
    exact R
end
end
/-! 5zt3.knocks -/
section
noncomputable section
/-! AT WHICH DOOR TO KNOCK FIRST -/
def rgN (w : Nat → Int32) (i : Nat) : Nat := (w (203 + 4 * i)).toInt.toNat
def srR (w : Nat → Int32) (m i : Nat) : Int := (sureN w m (rgN w i)).toInt
/-- i is ahead of r -/
def ahB (f : Nat → Int) (i r : Nat) : Bool := decide (f i < f r ∨ (f i = f r ∧ i < r))
theorem ah_t {f : Nat → Int} {i r : Nat} (h : f i < f r ∨ (f i = f r ∧ i < r)) : ahB f i r = true := decide_eq_true h
theorem ah_f {f : Nat → Int} {i r : Nat} (h : ahB f i r = true) : f i < f r ∨ (f i = f r ∧ i < r) := of_decide_eq_true h
def kN (f : Nat → Int) (r : Nat) : Nat → Nat
  | 0 => 0
  | i + 1 => if ahB f i r = true then kN f r i + 1 else kN f r i
theorem kN_0 {f : Nat → Int} {r : Nat} : kN f r 0 = 0 := rfl
theorem kN_s {f : Nat → Int} {r i : Nat} : kN f r (i + 1) = if ahB f i r = true then kN f r i + 1 else kN f r i := rfl
theorem kN_b {f : Nat → Int} {r : Nat} : ∀ i, kN f r i ≤ i := by
  intro i
  induction i with
  | zero => exact Nat.le_refl _
  | succ i ih =>
    rw [kN_s]
    by_cases e : ahB f i r = true
    · rw [if_pos e]; omega
    · rw [if_neg e]; omega
theorem rg_of {b : mG} {n rm i : Nat} (hC : CRs b) (g2 : b.1 89 112 = cn n) (hn : n ≤ 12) (hw : b.1 89 118 = cn rm) (hm : rm ≤ 8) (hi : i < rm) : rgN (b.1 89) i < n ∧ b.1 89 (203 + 4 * i) = cn (rgN (b.1 89) i) := by
  obtain ⟨c1, c2⟩ := hC.1.1 i (by omega) (by rw [hw, t_cn (by omega)]; omega)
  rw [g2, t_cn (by omega)] at c2
  unfold rgN
  exact ⟨by omega, cnof c1⟩
/-- the class weighs the rooms' guests -/
theorem V_rooms {a b : mG} {n nc m rm : Nat} {x : Int32} (hI : IM b) (hC : CRs b) (K : HK (b.1 89) n nc a) (g2 : b.1 89 112 = cn n) (hm : m ≤ 6) (h3 : a.1 10 3 = cn m) (hr : rm ≤ 8) (h14 : a.1 14 3 = cn rm) (hwr : b.1 89 118 = cn rm) {R : Int32 × mG → Prop} (hR : ∀ u, (∀ i, i < rm → Su (u.1 84 i) (sureN (b.1 89) m (rgN (b.1 89) i))) → u.1 14 3 = cn rm → pk (F_X9_roomAt_L51 x (ci 0) u) R) : pk (F_X9_roomAt_L2 x (ci 0) a) R := by
  have hn := K.2.2.1
  unfold F_X9_roomAt_L2
  refine pk_whl (fun v => ∃ (k : Nat) (s : mG), k ≤ rm ∧ v = (x, cn k, s) ∧ (∀ i, i < k → Su (s.1 84 i) (sureN (b.1 89) m (rgN (b.1 89) i))) ∧ ∀ j, j ≠ 69 → j ≠ 70 → j ≠ 74 → j ≠ 84 → s.1 j = a.1 j) ⟨0, a, Nat.zero_le _, rfl, fun i hi => absurd hi (by omega), fun _ _ _ _ _ => rfl⟩ (fun v hv => ?_)
  obtain ⟨k, s, hk, ev, q2, r⟩ := hv
  rw [ev]
  have Ks : HK (b.1 89) n nc s := HK_low K (fun j h1 h2 => r j (by omega) (by omega) (by omega) (by omega))
  have s14 : s.1 14 3 = cn rm := by rw [r 14 (by decide) (by decide) (by decide) (by decide)]; exact h14
  unfold F_X9_roomAt_B2
  dsimp only
  rw [s14]
  by_cases hkr : rm ≤ k
  · have ek : k = rm := by omega
    rw [ek] at q2
    rw [if_pos ((cn_le (by omega) (by omega)).mpr hkr)]
    exact pk_b1r (hR s q2 s14)
  obtain ⟨hg, eg⟩ := rg_of hC g2 hn hwr hr (by omega : k < rm)
  rw [if_neg (fun q => hkr ((cn_le (by omega) (by omega)).mp q)), V_atR (c := 0) (k := ci 0) Ks.1.2.2.2.2.2.2.1 s14 hr (by omega) (by decide) rfl, b1_some, show ixR k 0 = 203 + 4 * k from rfl, eg]
  refine pk_b2 (V_sureC hI Ks hg (by rw [r 10 (by decide) (by decide) (by decide) (by decide)]; exact h3) hm) (fun v10 s9 qt => ?_)
  obtain ⟨t1o, _, t2o⟩ := qt
  have t1 : Su v10 (sureN (b.1 89) m (rgN (b.1 89) k)) := t1o
  have t2 : ∀ j, j ≠ 69 → j ≠ 70 → j ≠ 74 → s9.1 j = s.1 j := t2o
  rw [V_putJ sh84 (by omega) (by decide), b1_some]
  refine pk_some (show ∃ (k' : Nat) (s' : mG), _ from ⟨k + 1, (mu s9.1 84 k v10, s9.2), by omega, by rw [cnu (by omega)], fun i hi => ?_, fun j h1 h2 h4 h5 => ?_⟩)
  · show Su (mu s9.1 84 k v10 84 i) _
    by_cases e : i = k
    · rw [e, mu_same]; exact t1
    · rw [mu_cell (Or.inr e), t2 84 (by decide) (by decide) (by decide)]
      exact q2 i (by omega)
  · show mu s9.1 84 k v10 j = a.1 j
    exact (mu_row h5).trans ((t2 j h1 h2 h4).trans (r j h1 h2 h4 h5))
theorem V_beforeC {w : Nat → Int32} {u : mG} {m rm r : Nat} (hr : rm ≤ 8) (h14 : u.1 14 3 = cn rm) (h84 : ∀ i, i < rm → Su (u.1 84 i) (sureN w m (rgN w i))) (hrr : r < rm) : pk (F_X9_roomsBefore u (cn r)) (fun v => v = cn (kN (srR w m) r rm)) := by
  unfold F_X9_roomsBefore F_X9_roomsBefore_L4
  refine pk_whl (fun v => ∃ k : Nat, k ≤ rm ∧ v = (cn r, cn (kN (srR w m) r k), cn k)) ⟨0, Nat.zero_le _, rfl⟩ (fun v hv => ?_)
  obtain ⟨k, hk, ev⟩ := hv
  rw [ev]
  have bb := kN_b (f := srR w m) (r := r) k
  unfold F_X9_roomsBefore_B4 F_X9_roomsBefore_42 F_X9_roomsBefore_68 F_X9_roomsBefore_90 F_X9_roomsBefore_86 F_X9_roomsBefore_91
  dsimp only
  rw [h14]
  by_cases hkr : rm ≤ k
  · have ek : k = rm := by omega
    rw [if_pos ((cn_le (by omega) (by omega)).mpr hkr), ek]
    exact pk_some (show cn (kN (srR w m) r rm) = _ from rfl)
  have a1 := h84 k (by omega)
  have a2 := h84 r hrr
  have z0 : cn (kN (srR w m) r k) + ci 0 = cn (kN (srR w m) r k) := Int32.add_zero _
  have on : ∀ y : Int32, y = cn (kN (srR w m) r (k + 1)) → ∃ k' : Nat, k' ≤ rm ∧ ((cn r, y, cn k + ci 1) : Int32 × Int32 × Int32) = (cn r, cn (kN (srR w m) r k'), cn k') := fun y e => ⟨k + 1, by omega, by rw [cnu (by omega), e]⟩
  have fk : srR w m k = (u.1 84 k).toInt := Su_t a1
  have fr : srR w m r = (u.1 84 r).toInt := Su_t a2
  rw [if_neg (fun q => hkr ((cn_le (by omega) (by omega)).mp q)), V_cellJ (j := 84) (k := k) sh84 (by omega) (by decide), b1_some, V_cellJ (j := 84) (k := r) sh84 (by omega) (by decide), b1_some]
  by_cases h1 : u.1 84 r ≤ u.1 84 k
  · have h1' := Int32.le_iff_toInt_le.mp h1
    rw [if_pos h1, b1_some, b1_some]
    by_cases h2 : u.1 84 k = u.1 84 r
    · rw [if_pos h2, if_pos c0e0, if_neg c1n0]
      have e2 : srR w m k = srR w m r := by rw [fk, fr, h2]
      by_cases h3 : r ≤ k
      · rw [if_pos ((cn_le (by omega) (by omega)).mpr h3), z0]
        refine pk_some (on _ ?_)
        rw [kN_s, if_neg (fun q => by have := ah_f q; omega)]
      · rw [if_neg (fun q => h3 ((cn_le (by omega) (by omega)).mp q)), show cn (kN (srR w m) r k) + ci 1 = cn (kN (srR w m) r k + 1) from cnu (by omega)]
        refine pk_some (on _ ?_)
        rw [kN_s, if_pos (ah_t (Or.inr ⟨e2, by omega⟩))]
    · rw [if_neg h2, if_pos c0e0, if_pos c0e0, z0]
      have e2 : ¬ (u.1 84 k).toInt = (u.1 84 r).toInt := fun q => h2 (Int32.toInt_inj.mp q)
      refine pk_some (on _ ?_)
      rw [kN_s, if_neg (fun q => by have := ah_f q; rw [fk, fr] at this; omega)]
  · rw [if_neg h1, b1_some, b1_some]
    have h1' : ¬ (u.1 84 r).toInt ≤ (u.1 84 k).toInt := fun q => h1 (Int32.le_iff_toInt_le.mpr q)
    have fin : ∀ y0 : Int32, pk (if ci 1 = 0 then if y0 = 0 then some (Sum.inl (cn r, cn (kN (srR w m) r k) + ci 0, cn k + ci 1)) else if cn r ≤ cn k then some (Sum.inl (cn r, cn (kN (srR w m) r k) + ci 0, cn k + ci 1)) else some (Sum.inl (cn r, cn (kN (srR w m) r k) + ci 1, cn k + ci 1)) else some (Sum.inl (cn r, cn (kN (srR w m) r k) + ci 1, cn k + ci 1))) (se (fun v : Int32 × Int32 × Int32 => ∃ k : Nat, k ≤ rm ∧ v = (cn r, cn (kN (srR w m) r k), cn k)) (fun v => v = cn (kN (srR w m) r rm))) := fun y0 => by
      rw [if_neg c1n0, show cn (kN (srR w m) r k) + ci 1 = cn (kN (srR w m) r k + 1) from cnu (by omega)]
      refine pk_some (on _ ?_)
      rw [kN_s, if_pos (ah_t (Or.inl (by rw [fk, fr]; omega)))]
    by_cases h2 : u.1 84 k = u.1 84 r
    · rw [if_pos h2]; exact fin (ci 1)
    · rw [if_neg h2]; exact fin (ci 0)
theorem V_aheadR {b t : mG} {n nc m rm i r : Nat} (hC : CRs b) (L : LTy nc (b.1 89)) (g2 : b.1 89 112 = cn n) (hn : n ≤ 12) (hw : b.1 89 115 = cn m) (hm : m ≤ 6) (hr : rm ≤ 8) (hwr : b.1 89 118 = cn rm) (hi : i < rm) (hrr : r < rm) (e : t.1 89 = b.1 89) : pk (F_X12_isKnockedAhead (cn i) (cn r) t) (fun τ => (τ.1 = if ahB (srR (b.1 89) m) i r = true then ci 1 else ci 0) ∧ ∀ j, j ≠ 96 → j ≠ 97 → τ.2.1 j = t.1 j) := by
  have oR : ∀ (s : mG) (k : Nat), k < 8 → pk (F_X12_ofRoom s (cn k) (ci 0)) (fun v => v = s.1 89 (203 + 4 * k)) := fun s k hk => by
    unfold F_X12_ofRoom
    rw [show ci 4 * cn k = cn (4 * k) from cn_mul (a := 4) (by omega) (by omega) (by omega), show c16 203 + cn (4 * k) = cn (203 + 4 * k) by rw [show c16 203 = cn 203 by decide]; exact cn_add (by omega), show cn (203 + 4 * k) + ci 0 = cn (203 + 4 * k) from Int32.add_zero _, cn_nat (n := 203 + 4 * k) (by omega)]
    exact pk_nn (pk_some rfl)
  obtain ⟨hg1, eg1⟩ := rg_of hC g2 hn hwr hr hi
  obtain ⟨hg2, eg2⟩ := rg_of hC g2 hn hwr hr hrr
  unfold F_X12_isKnockedAhead F_X12_isKnockedAhead_42 F_X12_isKnockedAhead_46
  refine pk_b1 (oR t i (by omega)) (fun v2 h2 => ?_)
  rw [h2, e, eg1]
  refine pk_b2 (V_sureS L hn hg1 hw hm e) (fun v5 s4 qt => ?_)
  obtain ⟨t1o, t2o, _⟩ := qt
  have t1 : v5 = sureN (b.1 89) m (rgN (b.1 89) i) := t1o
  have t2 : ∀ j, j ≠ 96 → j ≠ 97 → s4.1 j = t.1 j := t2o
  have e4 : s4.1 89 = b.1 89 := (t2 89 (by decide) (by decide)).trans e
  refine pk_b1 (oR s4 r (by omega)) (fun v7 h7 => ?_)
  rw [h7, e4, eg2]
  refine pk_b2 (V_sureS L hn hg2 hw hm e4) (fun v10 s9 qs => ?_)
  obtain ⟨w1o, w2o, _⟩ := qs
  have w1 : v10 = sureN (b.1 89) m (rgN (b.1 89) r) := w1o
  have w2 : ∀ j, j ≠ 96 → j ≠ 97 → s9.1 j = s4.1 j := w2o
  have fr : ∀ j, j ≠ 96 → j ≠ 97 → s9.1 j = t.1 j := fun j h1 h2 => (w2 j h1 h2).trans (t2 j h1 h2)
  have f1 : srR (b.1 89) m i = v5.toInt := by rw [t1]; rfl
  have f2 : srR (b.1 89) m r = v10.toInt := by rw [w1]; rfl
  have yes : ahB (srR (b.1 89) m) i r = true → pk (some (ci 1, s9)) (fun τ => (τ.1 = if ahB (srR (b.1 89) m) i r = true then ci 1 else ci 0) ∧ ∀ j, j ≠ 96 → j ≠ 97 → τ.2.1 j = t.1 j) := fun q => pk_some (show ci 1 = _ ∧ _ from ⟨by rw [if_pos q], fr⟩)
  have no : ¬ ahB (srR (b.1 89) m) i r = true → pk (some (ci 0, s9)) (fun τ => (τ.1 = if ahB (srR (b.1 89) m) i r = true then ci 1 else ci 0) ∧ ∀ j, j ≠ 96 → j ≠ 97 → τ.2.1 j = t.1 j) := fun q => pk_some (show ci 0 = _ ∧ _ from ⟨by rw [if_neg q], fr⟩)
  clear t1 w1
  refine pk_li (fun c => yes ?_) (fun c => ?_)
  · have c := (lg_cmp_lt _ _).mp c
    rw [Int64.lt_iff_toInt_lt] at c
    exact ah_t (Or.inl (by rw [f1, f2]; exact c))
  have c' : ¬ v5.toInt < v10.toInt := fun q => c ((lg_cmp_lt _ _).mpr (Int64.lt_iff_toInt_lt.mpr q))
  refine pk_li (fun d => ?_) (fun d => no (fun q => ?_))
  · have d := (lg_cmp_eq _ _).mp d
    refine pk_li (fun h => no (fun q => ?_)) (fun h => yes (ah_t (Or.inr ⟨by rw [f1, f2, d], ?_⟩)))
    · have h := (cn_le (by omega) (by omega)).mp h
      have q := ah_f q
      rw [f1, f2] at q
      omega
    · exact Nat.lt_of_not_le (fun q => h ((cn_le (by omega) (by omega)).mpr q))
  · have d' : ¬ v5.toInt = v10.toInt := fun q => d ((lg_cmp_eq _ _).mpr (Int64.toInt_inj.mp q))
    have q := ah_f q
    rw [f1, f2] at q
    omega
theorem V_aheadL {b t : mG} {n nc m rm r : Nat} {x : Int32} (hC : CRs b) (L : LTy nc (b.1 89)) (g2 : b.1 89 112 = cn n) (hn : n ≤ 12) (hw : b.1 89 115 = cn m) (hm : m ≤ 6) (hr : rm ≤ 8) (hwr : b.1 89 118 = cn rm) (hrr : r < rm) (e : ∀ j, j ≠ 96 → j ≠ 97 → t.1 j = b.1 j) : pk (F_X12_knocks_L18 x (cn r) (ci 0) (ci 0) t) (fun o => ∃ t' : mG, (∀ j, j ≠ 96 → j ≠ 97 → t'.1 j = b.1 j) ∧ o = if cn (kN (srR (b.1 89) m) r rm) = x then Sum.inr (cn r, t') else Sum.inl (x, cn r + ci 1, t')) := by
  unfold F_X12_knocks_L18
  refine pk_whl (fun v => ∃ (k : Nat) (t' : mG), k ≤ rm ∧ v = (x, cn r, cn (kN (srR (b.1 89) m) r k), cn k, t') ∧ ∀ j, j ≠ 96 → j ≠ 97 → t'.1 j = b.1 j) ⟨0, t, Nat.zero_le _, rfl, e⟩ (fun v hv => ?_)
  obtain ⟨k, t', hk, ev, rt⟩ := hv
  rw [ev]
  have bb := kN_b (f := srR (b.1 89) m) (r := r) k
  have e89 : t'.1 89 = b.1 89 := rt 89 (by decide) (by decide)
  unfold F_X12_knocks_B18 F_X12_knocks_51 F_X12_knocks_52
  dsimp only
  rw [e89, hwr]
  by_cases hkr : rm ≤ k
  · have ek : k = rm := by omega
    rw [if_pos ((cn_le (by omega) (by omega)).mpr hkr), ek]
    by_cases hx : cn (kN (srR (b.1 89) m) r rm) = x
    · rw [if_pos hx]
      exact pk_some (show ∃ t' : mG, _ from ⟨t', rt, by rw [if_pos hx]⟩)
    · rw [if_neg hx]
      exact pk_some (show ∃ t' : mG, _ from ⟨t', rt, by rw [if_neg hx]⟩)
  have z0 : cn (kN (srR (b.1 89) m) r k) + ci 0 = cn (kN (srR (b.1 89) m) r k) := Int32.add_zero _
  have on : ∀ (y : Int32) (t1 : mG), y = cn (kN (srR (b.1 89) m) r (k + 1)) → (∀ j, j ≠ 96 → j ≠ 97 → t1.1 j = b.1 j) → ∃ (k' : Nat) (t' : mG), k' ≤ rm ∧ ((x, cn r, y, cn k + ci 1, t1) : Int32 × Int32 × Int32 × Int32 × mG) = (x, cn r, cn (kN (srR (b.1 89) m) r k'), cn k', t') ∧ ∀ j, j ≠ 96 → j ≠ 97 → t'.1 j = b.1 j := fun y t1 e1 e2 => ⟨k + 1, t1, by omega, by rw [cnu (by omega), e1], e2⟩
  rw [if_neg (fun q => hkr ((cn_le (by omega) (by omega)).mp q)), z0]
  by_cases hkk : k = r
  · rw [if_pos (show cn k = cn r by rw [hkk])]
    refine pk_some (on _ t' ?_ rt)
    rw [kN_s, if_neg (fun q => by rw [hkk] at q; have := ah_f q; omega)]
  rw [if_neg (fun q => hkk ((cn_inj (by omega) (by omega)).mp q))]
  refine pk_b2 (V_aheadR hC L g2 hn hw hm hr hwr (by omega : k < rm) hrr e89) (fun v7 s6 qt => ?_)
  obtain ⟨t1o, t2o⟩ := qt
  have t1 : v7 = if ahB (srR (b.1 89) m) k r = true then ci 1 else ci 0 := t1o
  have t2 : ∀ j, j ≠ 96 → j ≠ 97 → s6.1 j = t'.1 j := t2o
  have fr : ∀ j, j ≠ 96 → j ≠ 97 → s6.1 j = b.1 j := fun j h1 h2 => (t2 j h1 h2).trans (rt j h1 h2)
  by_cases ha : ahB (srR (b.1 89) m) k r = true
  · rw [if_pos ha] at t1
    rw [t1, if_neg c1n0, show cn (kN (srR (b.1 89) m) r k) + ci 1 = cn (kN (srR (b.1 89) m) r k + 1) from cnu (by omega)]
    refine pk_some (on _ s6 ?_ fr)
    rw [kN_s, if_pos ha]
  · rw [if_neg ha] at t1
    rw [t1, if_pos c0e0]
    refine pk_some (on _ s6 ?_ fr)
    rw [kN_s, if_neg ha]
theorem R_knocks {a b : mG} {x : Int32} (hI : IM b) (hC : CRs b) (h : SIM a b) : rel (F_X11_knocks x a) (F_X12_knocks x b) (fun τ υ => τ.1 = υ.1) := by
  obtain ⟨n, nc, m, K, g2, V, hm, h3, hw⟩ := SIM_S h
  have hn := K.2.2.1
  obtain ⟨_, _, rm, hr, gr, gw, _⟩ := K.1.2.2.2.2.2.2.1
  have gr : a.1 14 3 = cn rm := gr
  unfold F_X11_knocks F_X12_knocks F_X9_roomAt
  rw [b2_id]
  intro τ hτ υ hυ
  refine V_rooms hI hC K g2 hm h3 hr gr gw (R := fun τ => ∀ υ, F_X12_knocks_L2 x (ci 0) b = some υ → τ.1 = υ.1) (fun u u84 u14 => ?_) τ hτ υ hυ
  have M : rel (F_X9_roomAt_L51 x (ci 0) u) (F_X12_knocks_L2 x (ci 0) b) (fun τ υ => τ.1 = υ.1) := by
    unfold F_X9_roomAt_L51 F_X12_knocks_L2
    refine rel_whl (fun v w => ∃ (k : Nat) (t : mG), k ≤ rm ∧ v = (x, cn k, u) ∧ w = (x, cn k, t) ∧ ∀ j, j ≠ 96 → j ≠ 97 → t.1 j = b.1 j) ⟨0, b, Nat.zero_le _, rfl, rfl, fun _ _ _ => rfl⟩ (fun v w hvw => ?_)
    obtain ⟨k, t, hk, ev, ew, rt⟩ := hvw
    rw [ev, ew]
    have e89 : t.1 89 = b.1 89 := rt 89 (by decide) (by decide)
    unfold F_X9_roomAt_B51 F_X12_knocks_B2
    dsimp only
    rw [u14, e89, gw]
    by_cases hkr : rm ≤ k
    · rw [if_pos ((cn_le (by omega) (by omega)).mpr hkr), if_pos ((cn_le (by omega) (by omega)).mpr hkr)]
      exact rel_some (show ci (-1) = ci (-1) from rfl)
    rw [if_neg (fun q => hkr ((cn_le (by omega) (by omega)).mp q)), if_neg (fun q => hkr ((cn_le (by omega) (by omega)).mp q))]
    refine rel_l1 (V_beforeC hr u14 u84 (by omega : k < rm)) (fun v4 h4 => ?_)
    have Q := V_aheadL (x := x) hC K.2.2.2.2 g2 hn hw hm hr gw (by omega : k < rm) rt
    rw [h4]
    by_cases hc : cn (kN (srR (b.1 89) m) k rm) = x
    · rw [if_pos hc]
      refine rel_sp Q (fun o ho => ?_)
      obtain ⟨t', fr, eo⟩ := ho
      rw [eo, if_pos hc]
      exact (show cn k = cn k from rfl)
    · rw [if_neg hc]
      refine rel_sp Q (fun o ho => ?_)
      obtain ⟨t', fr, eo⟩ := ho
      rw [eo, if_neg hc]
      exact (show ∃ (k' : Nat) (t : mG), _ from ⟨k + 1, t', by omega, by rw [cnu (by omega)], by rw [cnu (by omega)], fr⟩)
  exact fun τ hτ υ hυ => M τ hτ υ hυ
end
end
