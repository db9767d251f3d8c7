noncomputable section
/-! WHAT THE LAW TELLS, ADDED UP: tags, moves, who carries, who stays away -/
theorem rel_pk {α β : Type} {x : Option α} {y : Option β} {P : α → Prop} {Q : β → Prop} {R : α → β → Prop} (h : pk x P) (k : pk y Q) (e : ∀ u v, P u → Q v → R u v) : rel x y R := fun u hu v hv => e u v (h u hu) (k v hv)
/-- the house is known: row w holds it -/
def HK (w : Nat → Int32) (n nc : Nat) (a : mG) : Prop := HSr 1 a.1 w ∧ a.1 2 3 = cn n ∧ n ≤ 12 ∧ a.1 8 3 = cn nc ∧ LTy nc w
theorem HK_row {w : Nat → Int32} {n nc : Nat} {a u : mG} (h : HK w n nc a) (e : ∀ j, j ≠ 69 → j ≠ 70 → j ≠ 72 → u.1 j = a.1 j) : HK w n nc u := by
  obtain ⟨h1, h2, h3, h4, h5⟩ := h
  exact ⟨HSr_row h1 e, by rw [e 2 (by decide) (by decide) (by decide)]; exact h2, h3, by rw [e 8 (by decide) (by decide) (by decide)]; exact h4, h5⟩
theorem V_faceK {w : Nat → Int32} {n nc g : Nat} {a : mG} (h : HK w n nc a) (hg : g < n) : pk (F_X3_face (cn g) a) (fun u => KNc w g (w 0) (w 113) (w (27 + g)) u ∧ ∀ j, j ≠ 69 → u.1 j = a.1 j) :=
  V_face h.1.1 h.2.1 h.2.2.1 hg h.1.2.2.2.2.2.2.2.2.1 h.1.2.2.2.2.2.2.2.2.2.1 h.1.2.2.2.2.2.2.2.2.2.2.1
theorem V_tellsK {w : Nat → Int32} {n nc g x : Nat} {hh pp ss : Int32} {a : mG} (h : HK w n nc a) (k : KNc w g hh pp ss a) (hx : x < 6) : pk (F_X3_tells (cn x) a) (fun τ => τ.1 = LV w (FAc w g hh pp ss) x ∧ ∀ j, j ≠ 70 → τ.2.1 j = a.1 j) :=
  V_tells (f := FAc w g hh pp ss) (LWC_of h.1 h.2.2.2.1 h.2.2.2.2 rfl rfl rfl rfl) k hx
theorem V_suppose {k : Nat} {e v : Int32} {s : mG} (he : e = cn k) (hk : k < 9) : F_X3_suppose e v s = some (mu s.1 69 k v, s.2) := by
  unfold F_X3_suppose
  rw [V_put69 he hk, b1_some]
theorem KN_pear {w : Nat → Int32} {g : Nat} {hh pp ss p' : Int32} {a : mG} (h : KNc w g hh pp ss a) : KNc w g hh p' ss (mu a.1 69 5 p', a.2) :=
  KN_put (k := 5) h rfl (fun j hj hne => by
    rcases lt9 hj with e | e | e | e | e | e | e | e | e <;> subst e
    · rfl
    · rfl
    · rfl
    · rfl
    · rfl
    · exact absurd rfl hne
    · rfl
    · rfl
    · rfl)
theorem KN_hour {w : Nat → Int32} {g : Nat} {hh pp ss h' c : Int32} {a : mG} (h : KNc w g hh pp ss a) (hc : c = rm h' (c8 24)) (hd : h' / c8 24 = hh / c8 24) : KNc w g h' pp ss (mu a.1 69 3 c, a.2) :=
  KN_put (k := 3) h hc (fun j hj hne => by
    rcases lt9 hj with e | e | e | e | e | e | e | e | e <;> subst e
    · rfl
    · rfl
    · rfl
    · exact absurd rfl hne
    · exact hd.symm
    · rfl
    · rfl
    · rfl
    · rfl)
theorem KN_since {w : Nat → Int32} {g : Nat} {hh pp ss s' : Int32} {a : mG} (h : KNc w g hh pp ss a) : KNc w g hh pp s' (mu a.1 69 8 s', a.2) :=
  KN_put (k := 8) h rfl (fun j hj hne => by
    rcases lt9 hj with e | e | e | e | e | e | e | e | e <;> subst e
    · rfl
    · rfl
    · rfl
    · rfl
    · rfl
    · rfl
    · rfl
    · rfl
    · exact absurd rfl hne)
theorem SIM_K {a b : mG} (h : SIM a b) : ∃ n nc, HK (b.1 89) n nc a ∧ b.1 89 112 = cn n ∧ VIm n (b.1 89) := by
  obtain ⟨⟨n, nb, nc, hn, hnb, e2, e4, e8, H, L, V⟩, _⟩ := h
  exact ⟨n, nc, ⟨H, e2, hn, e8, L⟩, SIM_n H e2, V⟩
/-! tags -/
def cSum (w : Nat → Int32) (p : Int32) : Nat → Int32
  | 0 => ci 0
  | k + 1 => cSum w p k + LV w (FAc w k (w 0) p (w (27 + k))) 2
def cCost (w : Nat → Int32) (n : Nat) (x y z : Int32) : Int32 := (cSum w z n * x) / c16 1000 + z * y
theorem V_costC {w : Nat → Int32} {n nc : Nat} {a : mG} {x y z : Int32} (K : HK w n nc a) : pk (F_X1_costOfTag x y z a) (fun τ => τ.1 = cCost w n x y z ∧ ∀ j, j ≠ 69 → j ≠ 70 → τ.2.1 j = a.1 j) := by
  have hn := K.2.2.1
  unfold F_X1_costOfTag F_X1_costOfTag_L6
  refine pk_whl (fun v => v.1 = x ∧ v.2.1 = y ∧ v.2.2.1 = z ∧ ∃ g, g ≤ n ∧ v.2.2.2.1 = cSum w z g ∧ v.2.2.2.2.1 = cn g ∧ ∀ j, j ≠ 69 → j ≠ 70 → v.2.2.2.2.2.1 j = a.1 j) ⟨rfl, rfl, rfl, 0, Nat.zero_le _, rfl, rfl, fun _ _ _ => rfl⟩ (fun v hv => ?_)
  obtain ⟨x1, x2, x3, x4, x5, s⟩ := v
  obtain ⟨q1o, q2o, q3o, g, hg, q4o, q5o, ro⟩ := hv
  have q1 : x = x1 := (show x1 = x from q1o).symm
  have q2 : y = x2 := (show x2 = y from q2o).symm
  have q3 : z = x3 := (show x3 = z from q3o).symm
  have q4 : x4 = cSum w z g := q4o
  have q5 : x5 = cn g := q5o
  have r : ∀ j, j ≠ 69 → j ≠ 70 → s.1 j = a.1 j := ro
  subst q1; subst q2; subst q3; subst q4; subst q5
  have Ks : HK w n nc s := HK_row K (fun j h1 h2 _ => r j h1 h2)
  unfold F_X1_costOfTag_B6
  dsimp only
  rw [Ks.2.1]
  by_cases hgn : n ≤ g
  · have eg : g = n := by omega
    rw [if_pos ((cn_le (by omega) (by omega)).mpr hgn)]
    exact pk_some (show _ = cCost w n x y z ∧ _ from ⟨by rw [eg]; rfl, r⟩)
  · rw [if_neg (fun q => hgn ((cn_le (by omega) (by omega)).mp q))]
    refine pk_b1 (V_faceK Ks (by omega)) (fun u qu => ?_)
    obtain ⟨k1, r1⟩ := qu
    rw [V_suppose (k := 5) (e := ci 5) rfl (by decide), b1_some]
    have k2 : KNc w g (w 0) z (w (27 + g)) ((mu u.1 69 5 z, u.2) : mG) := KN_pear k1
    have Ku : HK w n nc ((mu u.1 69 5 z, u.2) : mG) := HK_row Ks (fun j h1 _ _ => (mu_rowQ h1).trans (r1 j h1))
    refine pk_b2 (V_tellsK (x := 2) Ku k2 (by decide)) (fun v t qt => ?_)
    obtain ⟨t1o, t2o⟩ := qt
    have t1 : v = LV w (FAc w g (w 0) z (w (27 + g))) 2 := t1o
    have t2 : ∀ j, j ≠ 70 → t.1 j = mu u.1 69 5 z j := t2o
    refine pk_some (show _ ∧ _ ∧ _ ∧ ∃ g', _ from ⟨rfl, rfl, rfl, g + 1, by omega, by rw [t1]; rfl, cnu (by omega), fun j h1 h2 => (t2 j h2).trans ((mu_row h1).trans ((r1 j h1).trans (r j h1 h2)))⟩)
theorem V_costR {b : mG} {n nc : Nat} {x y z : Int32} (L : LTy nc (b.1 89)) (g2 : b.1 89 112 = cn n) (hn : n ≤ 12) : pk (F_X12_tagCostOf z x y b) (fun τ => τ.1 = cCost (b.1 89) n x y z ∧ ∀ j, j ≠ 96 → j ≠ 97 → τ.2.1 j = b.1 j) := by
  unfold F_X12_tagCostOf F_X12_tagCostOf_L6
  refine pk_whl (fun v => v.1 = z ∧ v.2.1 = x ∧ v.2.2.1 = y ∧ ∃ g, g ≤ n ∧ v.2.2.2.1 = cSum (b.1 89) z g ∧ v.2.2.2.2.1 = cn g ∧ ∀ j, j ≠ 96 → j ≠ 97 → v.2.2.2.2.2.1 j = b.1 j) ⟨rfl, rfl, rfl, 0, Nat.zero_le _, rfl, rfl, fun _ _ _ => rfl⟩ (fun v hv => ?_)
  obtain ⟨x1, x2, x3, x4, x5, s⟩ := v
  obtain ⟨q1o, q2o, q3o, g, hg, q4o, q5o, ro⟩ := hv
  have q1 : z = x1 := (show x1 = z from q1o).symm
  have q2 : x = x2 := (show x2 = x from q2o).symm
  have q3 : y = x3 := (show x3 = y from q3o).symm
  have q4 : x4 = cSum (b.1 89) z g := q4o
  have q5 : x5 = cn g := q5o
  have r : ∀ j, j ≠ 96 → j ≠ 97 → s.1 j = b.1 j := ro
  subst q1; subst q2; subst q3; subst q4; subst q5
  have e89 : s.1 89 = b.1 89 := r 89 (by decide) (by decide)
  unfold F_X12_tagCostOf_B6
  dsimp only
  rw [e89, g2]
  by_cases hgn : n ≤ g
  · have eg : g = n := by omega
    rw [if_pos ((cn_le (by omega) (by omega)).mpr hgn)]
    exact pk_some (show _ = cCost (b.1 89) n x y z ∧ _ from ⟨by rw [eg]; rfl, r⟩)
  · rw [if_neg (fun q => hgn ((cn_le (by omega) (by omega)).mp q)), show c8 27 + cn g = cn (27 + g) from cn_add (a := 27) (by omega), cn_nat (n := 27 + g) (by omega)]
    refine pk_nn ?_
    rw [show c8 22 = cn (20 + 2) by decide]
    refine pk_b2 (V_says (x := 2) (nc := nc) (by rw [e89]; exact L) (by omega : g < 12) (by omega)) (fun v t qt => ?_)
    obtain ⟨t1, t2⟩ := qt
    rw [e89] at t1
    have t1 : v = LV (b.1 89) (FAc (b.1 89) g (b.1 89 0) z (b.1 89 (27 + g))) 2 := t1
    have t2 : ∀ j, j ≠ 96 → j ≠ 97 → t.1 j = s.1 j := t2
    refine pk_some (show _ ∧ _ ∧ _ ∧ ∃ g', _ from ⟨rfl, rfl, rfl, g + 1, by omega, by rw [t1]; rfl, cnu (by omega), fun j h1 h2 => (t2 j h1 h2).trans (r j h1 h2)⟩)
theorem R_tagCost {a b : mG} {x y z : Int32} (_ : IM b) (h : SIM a b) : rel (F_X11_tagCost x y z a) (F_X12_tagCost x y z b) (fun τ υ => τ.1 = υ.1) := by
  obtain ⟨n, nc, K, g2, V⟩ := SIM_K h
  unfold F_X11_tagCost F_X12_tagCost F_X11_tagCost_32 F_X12_tagCost_42
  rw [V_within, F_isIn, b1_some, b1_some]
  refine rel_ifs Iff.rfl (fun _ => rel_some rfl) (fun _ => ?_)
  rw [V_within, F_isIn, b1_some, b1_some]
  refine rel_ifs Iff.rfl (fun _ => rel_some rfl) (fun _ => ?_)
  rw [V_within, F_isIn, b1_some, b1_some]
  refine rel_ifs Iff.rfl (fun _ => rel_some rfl) (fun _ => ?_)
  refine rel_b2 (rel_pk (R := fun τ υ => τ.1 = υ.1) (V_costC K) (V_costR K.2.2.2.2 g2 K.2.2.1) (fun u v p q => p.1.trans q.1.symm)) (fun u u' v v' e => rel_some e)
/-- the best tag of the first k -/
def bTag (w : Nat → Int32) (n : Nat) (x y : Int32) : Nat → Nat
  | 0 => 0
  | k + 1 => if cCost w n x y (cn (bTag w n x y k)) ≤ cCost w n x y (cn k) then bTag w n x y k else k
theorem bTag_b {w : Nat → Int32} {n : Nat} {x y : Int32} : ∀ k, bTag w n x y k ≤ k := by
  intro k
  induction k with
  | zero => exact Nat.le_refl _
  | succ k ih =>
    unfold bTag
    by_cases h : cCost w n x y (cn (bTag w n x y k)) ≤ cCost w n x y (cn k)
    · rw [if_pos h]; omega
    · rw [if_neg h]; omega
theorem V_tagBestC {w : Nat → Int32} {n nc : Nat} {a : mG} {x y : Int32} (K : HK w n nc a) : pk (F_X1_bestTag x y a) (fun τ => τ.1 = cn (bTag w n x y 21)) := by
  unfold F_X1_bestTag
  refine pk_b2 (V_costC K) (fun v0 s0' q0 => ?_)
  obtain ⟨p0o, r0o⟩ := q0
  have p0 : v0 = cCost w n x y (ci 0) := p0o
  have r0 : ∀ j, j ≠ 69 → j ≠ 70 → s0'.1 j = a.1 j := r0o
  unfold F_X1_bestTag_L14
  refine pk_whl (fun v => v.1 = x ∧ v.2.1 = y ∧ ∃ k, k ≤ 21 ∧ v.2.2.1 = cn (bTag w n x y k) ∧ v.2.2.2.1 = cCost w n x y (cn (bTag w n x y k)) ∧ v.2.2.2.2.1 = cn k ∧ ∀ j, j ≠ 69 → j ≠ 70 → v.2.2.2.2.2.1 j = a.1 j) ⟨rfl, rfl, 1, by omega, ?_, ?_, rfl, r0⟩ (fun v hv => ?_)
  · show ci 0 = cn (bTag w n x y 1)
    have : bTag w n x y 1 = 0 := by unfold bTag bTag; rw [if_pos (Int32.le_refl _)]
    rw [this]; rfl
  · show v0 = cCost w n x y (cn (bTag w n x y 1))
    have : bTag w n x y 1 = 0 := by unfold bTag bTag; rw [if_pos (Int32.le_refl _)]
    rw [this, p0]; rfl
  obtain ⟨x1, x2, x3, x4, x5, s⟩ := v
  obtain ⟨q1o, q2o, k, hk, q3o, q4o, q5o, ro⟩ := hv
  have q1 : x = x1 := (show x1 = x from q1o).symm
  have q2 : y = x2 := (show x2 = y from q2o).symm
  have q3 : x3 = cn (bTag w n x y k) := q3o
  have q4 : x4 = cCost w n x y (cn (bTag w n x y k)) := q4o
  have q5 : x5 = cn k := q5o
  have r : ∀ j, j ≠ 69 → j ≠ 70 → s.1 j = a.1 j := ro
  subst q1; subst q2; subst q3; subst q4; subst q5
  have Ks : HK w n nc s := HK_row K (fun j h1 h2 _ => r j h1 h2)
  unfold F_X1_bestTag_B14 F_X1_bestTag_45
  dsimp only
  rw [show c8 20 = cn 20 by decide]
  by_cases hk2 : 20 < k
  · have ek : k = 21 := by omega
    rw [if_pos ((cn_lt (by omega) (by omega)).mpr hk2)]
    exact pk_some (show cn (bTag w n x y k) = cn (bTag w n x y 21) by rw [ek])
  · rw [if_neg (fun q => hk2 ((cn_lt (by omega) (by omega)).mp q))]
    refine pk_b2 (V_costC Ks) (fun v t qt => ?_)
    obtain ⟨t1o, t2o⟩ := qt
    have t1 : v = cCost w n x y (cn k) := t1o
    have t2 : ∀ j, j ≠ 69 → j ≠ 70 → t.1 j = s.1 j := t2o
    have fr : ∀ j, j ≠ 69 → j ≠ 70 → t.1 j = a.1 j := fun j h1 h2 => (t2 j h1 h2).trans (r j h1 h2)
    have bs : bTag w n x y (k + 1) = if cCost w n x y (cn (bTag w n x y k)) ≤ cCost w n x y (cn k) then bTag w n x y k else k := rfl
    rw [t1]
    by_cases h : cCost w n x y (cn (bTag w n x y k)) ≤ cCost w n x y (cn k)
    · rw [if_pos h] at bs ⊢
      exact pk_some (show _ ∧ _ ∧ ∃ k', _ from ⟨rfl, rfl, k + 1, by omega, by rw [bs], by rw [bs], cnu (by omega), fr⟩)
    · rw [if_neg h] at bs ⊢
      exact pk_some (show _ ∧ _ ∧ ∃ k', _ from ⟨rfl, rfl, k + 1, by omega, by rw [bs], by rw [bs], cnu (by omega), fr⟩)
theorem V_tagBestR {b : mG} {n nc : Nat} {x y : Int32} (L : LTy nc (b.1 89)) (g2 : b.1 89 112 = cn n) (hn : n ≤ 12) : pk (F_X12_tag_L29 x y (ci 0) (ci 1) b) (fun τ => τ.1 = cn (bTag (b.1 89) n x y 21)) := by
  unfold F_X12_tag_L29
  refine pk_whl (fun v => v.1 = x ∧ v.2.1 = y ∧ ∃ k, k ≤ 21 ∧ v.2.2.1 = cn (bTag (b.1 89) n x y k) ∧ v.2.2.2.1 = cn k ∧ ∀ j, j ≠ 96 → j ≠ 97 → v.2.2.2.2.1 j = b.1 j) ⟨rfl, rfl, 1, by omega, ?_, rfl, fun _ _ _ => rfl⟩ (fun v hv => ?_)
  · show ci 0 = cn (bTag (b.1 89) n x y 1)
    have : bTag (b.1 89) n x y 1 = 0 := by unfold bTag bTag; rw [if_pos (Int32.le_refl _)]
    rw [this]; rfl
  obtain ⟨x1, x2, x3, x4, s⟩ := v
  obtain ⟨q1o, q2o, k, hk, q3o, q4o, ro⟩ := hv
  have q1 : x = x1 := (show x1 = x from q1o).symm
  have q2 : y = x2 := (show x2 = y from q2o).symm
  have q3 : x3 = cn (bTag (b.1 89) n x y k) := q3o
  have q4 : x4 = cn k := q4o
  have r : ∀ j, j ≠ 96 → j ≠ 97 → s.1 j = b.1 j := ro
  subst q1; subst q2; subst q3; subst q4
  have e89 : s.1 89 = b.1 89 := r 89 (by decide) (by decide)
  unfold F_X12_tag_B29 F_X12_tag_57
  dsimp only
  rw [show c8 20 = cn 20 by decide]
  by_cases hk2 : 20 < k
  · have ek : k = 21 := by omega
    rw [if_pos ((cn_lt (by omega) (by omega)).mpr hk2)]
    exact pk_some (show cn (bTag (b.1 89) n x y k) = cn (bTag (b.1 89) n x y 21) by rw [ek])
  · rw [if_neg (fun q => hk2 ((cn_lt (by omega) (by omega)).mp q))]
    refine pk_b2 (V_costR (nc := nc) (n := n) (by rw [e89]; exact L) (by rw [e89]; exact g2) hn) (fun v t qt => ?_)
    obtain ⟨t1, t2⟩ := qt
    rw [e89] at t1
    have t1 : v = cCost (b.1 89) n x y (cn k) := t1
    have t2 : ∀ j, j ≠ 96 → j ≠ 97 → t.1 j = s.1 j := t2
    have f89 : t.1 89 = b.1 89 := (t2 89 (by decide) (by decide)).trans e89
    refine pk_b2 (V_costR (nc := nc) (n := n) (by rw [f89]; exact L) (by rw [f89]; exact g2) hn) (fun v2 t' qt' => ?_)
    obtain ⟨t3, t4⟩ := qt'
    rw [f89] at t3
    have t3 : v2 = cCost (b.1 89) n x y (cn (bTag (b.1 89) n x y k)) := t3
    have t4 : ∀ j, j ≠ 96 → j ≠ 97 → t'.1 j = t.1 j := t4
    have fr : ∀ j, j ≠ 96 → j ≠ 97 → t'.1 j = b.1 j := fun j h1 h2 => (t4 j h1 h2).trans ((t2 j h1 h2).trans (r j h1 h2))
    have bs : bTag (b.1 89) n x y (k + 1) = if cCost (b.1 89) n x y (cn (bTag (b.1 89) n x y k)) ≤ cCost (b.1 89) n x y (cn k) then bTag (b.1 89) n x y k else k := rfl
    rw [t1, t3]
    by_cases h : cCost (b.1 89) n x y (cn (bTag (b.1 89) n x y k)) ≤ cCost (b.1 89) n x y (cn k)
    · rw [if_pos h] at bs ⊢
      exact pk_some (show _ ∧ _ ∧ ∃ k', _ from ⟨rfl, rfl, k + 1, by omega, by rw [bs], cnu (by omega), fr⟩)
    · rw [if_neg h] at bs ⊢
      exact pk_some (show _ ∧ _ ∧ ∃ k', _ from ⟨rfl, rfl, k + 1, by omega, by rw [bs], cnu (by omega), fr⟩)
theorem R_tag {a b : mG} {x y : Int32} (_ : IM b) (h : SIM a b) : rel (F_X11_tag x y a) (F_X12_tag x y b) (fun τ υ => τ.1 = υ.1) := by
  obtain ⟨n, nc, K, g2, V⟩ := SIM_K h
  unfold F_X11_tag F_X12_tag F_X11_tag_22 F_X12_tag_22
  rw [V_within, F_isIn, b1_some, b1_some]
  refine rel_ifs Iff.rfl (fun _ => rel_some rfl) (fun _ => ?_)
  rw [V_within, F_isIn, b1_some, b1_some]
  refine rel_ifs Iff.rfl (fun _ => rel_some rfl) (fun _ => ?_)
  exact rel_pk (pk_b2 (Q := fun τ => τ.1 = cn (bTag (b.1 89) n x y 21)) (V_tagBestC K) (fun v s q => pk_some q)) (V_tagBestR K.2.2.2.2 g2 K.2.2.1) (fun u v p q => p.trans q.symm)
end
