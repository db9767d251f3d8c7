/-! THE REFERENCE: what its calls keep -/
theorem r_add {a b : Int32} {m n : Int} (ha : a.toInt = m) (hb : b.toInt = n) (h1 : -2147483648 ≤ m + n) (h2 : m + n < 2147483648) : (a + b).toInt = m + n := by
  subst ha; subst hb; exact t_add h1 h2
theorem r_sub {a b : Int32} {m n : Int} (ha : a.toInt = m) (hb : b.toInt = n) (h1 : -2147483648 ≤ m - n) (h2 : m - n < 2147483648) : (a - b).toInt = m - n := by
  subst ha; subst hb; exact t_sub h1 h2
theorem r_mul {a b : Int32} {m n : Int} (ha : a.toInt = m) (hb : b.toInt = n) (h1 : -2147483648 ≤ m * n) (h2 : m * n < 2147483648) : (a * b).toInt = m * n := by
  subst ha; subst hb; exact t_mul h1 h2
theorem r_le {a b : Int32} {m n : Int} (ha : a.toInt = m) (hb : b.toInt = n) (h : a ≤ b) : m ≤ n := by
  rw [Int32.le_iff_toInt_le, ha, hb] at h; exact h
theorem r_nle {a b : Int32} {m n : Int} (ha : a.toInt = m) (hb : b.toInt = n) (h : ¬ a ≤ b) : n < m := by
  rw [Int32.le_iff_toInt_le, ha, hb] at h; omega
theorem r_lt {a b : Int32} {m n : Int} (ha : a.toInt = m) (hb : b.toInt = n) (h : a < b) : m < n := by
  rw [Int32.lt_iff_toInt_lt, ha, hb] at h; exact h
theorem r_nlt {a b : Int32} {m n : Int} (ha : a.toInt = m) (hb : b.toInt = n) (h : ¬ a < b) : n ≤ m := by
  rw [Int32.lt_iff_toInt_lt, ha, hb] at h; omega
theorem r_eq {a b : Int32} {m n : Int} (ha : a.toInt = m) (hb : b.toInt = n) (h : a = b) : m = n := by
  subst h; exact ha.symm.trans hb
theorem r_ne {a b : Int32} {m n : Int} (ha : a.toInt = m) (hb : b.toInt = n) (h : ¬ a = b) : m ≠ n := by
  intro q
  subst q
  exact h (Int32.toInt_inj.mp (ha.trans hb.symm))
theorem ix_ok {e : Int32} {m : Int} {n : Nat} (he : e.toInt = m) (h0 : 0 ≤ m) (h1 : m < n) : ¬ (e < 0 ∨ n ≤ e.toNatClampNeg) := by
  rw [t_neg_iff, t_nat, he]
  omega
theorem r_nat {e : Int32} {m : Nat} (he : e.toInt = (m : Int)) : e.toNatClampNeg = m := by
  rw [t_nat, he]; rfl
theorem up_0 {x : Int32} (h0 : 0 ≤ x.toInt) (h : x.toInt < 2147483647) : 0 ≤ (x + ci 1).toInt := by rw [t_up h]; omega
theorem up_le {x : Int32} {n : Int} (h0 : x.toInt < n) (h : n ≤ 2147483647) : (x + ci 1).toInt ≤ n := by rw [t_up (by omega)]; omega
theorem dn_le {x : Int32} {n : Int} (h0 : 0 ≤ x.toInt) (h : x.toInt ≤ n) : (x + ci (-1)).toInt ≤ n := by rw [t_dn (by omega)]; omega
theorem dn_i {x : Int32} (h : 0 ≤ x.toInt) : mDn (x + ci (-1)) < mDn x := by
  unfold mDn; rw [t_dn (by omega)]; omega
/-! the code of a law: how high its pile is -/
def stpv (s v : Int32) (h : Nat) : Option Nat :=
  if s.toInt < 23 then (if 0 ≤ s.toInt ∧ s.toInt < 10 then some (h + 1) else none)
  else if s.toInt = 26 then (if 1 ≤ h ∧ v ≠ 0 then some h else none)
  else if s.toInt = 30 then (if 1 ≤ h then some h else none)
  else if 2 ≤ h then some (h - 1) else none
def stp (c : Nat → Int32) (k h : Nat) : Option Nat := stpv (c (2 * k)) (c (2 * k + 1)) h
def Rc (c : Nat → Int32) : Nat → Nat → Nat → Nat → Prop
  | _, 0, h, h' => h = h'
  | k, n + 1, h, h' => ∃ m, stp c k h = some m ∧ Rc c (k + 1) n m h'
theorem stp_congr {c c' : Nat → Int32} {k h : Nat} (h0 : c' (2 * k) = c (2 * k)) (h1 : c' (2 * k + 1) = c (2 * k + 1)) : stp c' k h = stp c k h := by
  unfold stp; rw [h0, h1]
theorem Rc_congr {c c' : Nat → Int32} : ∀ (n k h h' : Nat), (∀ j, 2 * k ≤ j → j < 2 * (k + n) → c' j = c j) → Rc c k n h h' → Rc c' k n h h' := by
  intro n
  induction n with
  | zero => intro k h h' _ q; exact q
  | succ n ih =>
    intro k h h' hc q
    obtain ⟨m, q1, q2⟩ := q
    exact ⟨m, (stp_congr (hc _ (by omega) (by omega)) (hc _ (by omega) (by omega))).trans q1, ih (k + 1) m h' (fun j h1 h2 => hc j (by omega) (by omega)) q2⟩
theorem Rc_trans {c : Nat → Int32} : ∀ (n k m h h' h2 : Nat), Rc c k n h h' → Rc c (k + n) m h' h2 → Rc c k (n + m) h h2 := by
  intro n
  induction n with
  | zero => intro k m h h' h2 q1 q2; cases (show h = h' from q1); rw [Nat.zero_add]; exact q2
  | succ n ih =>
    intro k m h h' h2 q1 q2
    obtain ⟨i, q1, q3⟩ := q1
    rw [show n + 1 + m = (n + m) + 1 by omega]
    exact ⟨i, q1, ih (k + 1) m i h' h2 q3 (by rw [show k + 1 + n = k + (n + 1) by omega]; exact q2)⟩
theorem stp_le {c : Nat → Int32} {k h m : Nat} (q : stp c k h = some m) : m ≤ h + 1 := by
  unfold stp stpv at q
  split at q
  · split at q
    · cases q; exact Nat.le_refl _
    · cases q
  split at q
  · split at q
    · cases q; omega
    · cases q
  split at q
  · split at q
    · cases q; omega
    · cases q
  split at q
  · cases q; omega
  · cases q
/-! the cells -/
def LawOK (f : Nat → Int32) (k : Nat) : Prop := ∃ a b c : Nat, c ≤ 410 ∧ a ≤ b ∧ b ≤ c ∧ f (985 + k) = cn a ∧ f (1001 + k) = cn b ∧ f (1017 + k) = cn c ∧ Rc (fun j => f (1050 + j)) a (b - a) 0 1 ∧ (b = c ∨ Rc (fun j => f (1050 + j)) b (c - b) 0 1)
def WI (f : Nat → Int32) : Prop :=
  (0 ≤ (f 112).toInt ∧ (f 112).toInt ≤ 12) ∧ (0 ≤ (f 115).toInt ∧ (f 115).toInt ≤ 6) ∧ (0 ≤ (f 116).toInt ∧ (f 116).toInt ≤ 12) ∧ (0 ≤ (f 117).toInt ∧ (f 117).toInt ≤ 16) ∧ (0 ≤ (f 118).toInt ∧ (f 118).toInt ≤ 8) ∧ (0 ≤ (f 1049).toInt ∧ (f 1049).toInt ≤ 8) ∧
  (∀ k, k < 12 → 0 ≤ (f (119 + k)).toInt ∧ (f (119 + k)).toInt ≤ 3) ∧
  (∀ k : Nat, k < 12 → (k : Int) < 2 * (f 115).toInt → 1 ≤ (f (143 + k)).toInt ∧ (f (143 + k)).toInt ≤ 999) ∧
  (∀ k : Nat, k < 8 → (k : Int) < (f 118).toInt → 0 ≤ (f (203 + 4 * k)).toInt ∧ (f (203 + 4 * k)).toInt < 12) ∧
  (∀ k : Nat, k < 8 → (k : Int) < (f 1049).toInt → 0 ≤ (f (1870 + 3 * k)).toInt ∧ (f (1870 + 3 * k)).toInt < 12) ∧
  (∀ k : Nat, k < 16 → (k : Int) < (f 117).toInt → LawOK f k)
def KI (n : Int) (f : Nat → Int32) : Prop :=
  (0 ≤ (f 2).toInt ∧ (f 2).toInt ≤ 150) ∧
  (∀ a : Nat, a < 12 → (a : Int) < n → -1 ≤ (f (15 + a)).toInt ∧ (f (15 + a)).toInt < n) ∧
  (∀ a b : Nat, a < 12 → b < 12 → (a : Int) < n → (b : Int) < n → f (15 + a) = f (15 + b) → f (15 + a) ≠ ci (-1) → a = b)
def IM (s : mG) : Prop :=
  WI (s.1 89) ∧ KI (s.1 89 112).toInt (s.1 89) ∧
  (s.1 88 4 ≠ 0 → WI (s.1 90) ∧ KI (s.1 90 112).toInt (s.1 90)) ∧
  (0 ≤ (s.1 88 3).toInt ∧ (s.1 88 3).toInt ≤ 6) ∧
  (∀ j : Nat, j < 6 → (j : Int) < (s.1 88 3).toInt → KI (s.1 89 112).toInt (fun k => s.1 91 (112 * j + k))) ∧
  (0 ≤ (s.1 88 15).toInt ∧ (s.1 88 15).toInt ≤ 400)
/-- thinking: the house, the image, the past and the tape stay -/
def RT (s s' : mG) : Prop := (∀ j, j < 92 → j ≠ 88 → s'.1 j = s.1 j) ∧ s'.1 88 3 = s.1 88 3 ∧ s'.1 88 4 = s.1 88 4 ∧ s'.1 88 15 = s.1 88 15
def RM (s s' : mG) : Prop := IM s' ∧ RT s s'
theorem IM_RT {s s' : mG} (h : RT s s') (hI : IM s) : IM s' := by
  obtain ⟨h1, h2, h3, h4⟩ := h
  unfold IM
  rw [h1 89 (by decide) (by decide), h1 90 (by decide) (by decide), h1 91 (by decide) (by decide), h2, h3, h4]
  exact hI
theorem RT_refl {s : mG} : RT s s := ⟨fun _ _ _ => rfl, rfl, rfl, rfl⟩
theorem RT_tr {s s' s2 : mG} (h : RT s s') (k : RT s' s2) : RT s s2 := ⟨fun j h1 h2 => (k.1 j h1 h2).trans (h.1 j h1 h2), k.2.1.trans h.2.1, k.2.2.1.trans h.2.2.1, k.2.2.2.trans h.2.2.2⟩
theorem RM_refl {s : mG} (h : IM s) : RM s s := ⟨h, RT_refl⟩
theorem RM_tr {s s' s2 : mG} (h : RM s s') (k : RM s' s2) : RM s s2 := ⟨k.1, RT_tr h.2 k.2⟩
theorem RT_mu {s : mG} {i k : Nat} {v : Int32} (hd : 92 ≤ i ∨ (i = 88 ∧ k ≠ 3 ∧ k ≠ 4 ∧ k ≠ 15)) : RT s (mu s.1 i k v, s.2) :=
  ⟨fun j h1 h2 => mu_row (by omega), mu_cell (by omega), mu_cell (by omega), mu_cell (by omega)⟩
theorem RT_mu1 {s0 s : mG} {i k : Nat} {v : Int32} (h : RT s0 s) (hd : 92 ≤ i ∨ (i = 88 ∧ k ≠ 3 ∧ k ≠ 4 ∧ k ≠ 15)) : RT s0 (mu s.1 i k v, s.2) := RT_tr h (RT_mu hd)
theorem RM_mu {s0 s : mG} {i k : Nat} {v : Int32} (h : RM s0 s) (hd : 92 ≤ i ∨ (i = 88 ∧ k ≠ 3 ∧ k ≠ 4 ∧ k ≠ 15)) : RM s0 (mu s.1 i k v, s.2) :=
  ⟨IM_RT (RT_mu hd) h.1, RT_mu1 h.2 hd⟩
theorem RM_mw {s0 s : mG} {i k : Nat} {v : Int32} (h : RM s0 s) (hd : 92 ≤ i) : RM s0 (mu s.1 i k v, s.2) := RM_mu h (Or.inl hd)
theorem RM_muL {s0 s : mG} {i k : Nat} {v : Int64} (h : RM s0 s) : RM s0 (s.1, muL s.2 i k v) := ⟨h.1, h.2⟩
theorem ok_rm {s0 s : mG} {o : Option mG} (h : RM s0 s) (k : ok o (RM s)) : ok o (RM s0) := ok_mono k fun _ q => RM_tr h q
theorem ok_rm2 {α : Type} {s0 s : mG} {C : α → Prop} {o : Option (α × mG)} (h : RM s0 s) (k : ok o (fun τ => C τ.1 ∧ RM s τ.2)) : ok o (fun τ => C τ.1 ∧ RM s0 τ.2) := ok_mono k fun _ q => ⟨q.1, RM_tr h q.2⟩
/-! what is known of cells -/
theorem im_112 {s : mG} (h : IM s) : 0 ≤ (s.1 89 112).toInt ∧ (s.1 89 112).toInt ≤ 12 := h.1.1
theorem im_115 {s : mG} (h : IM s) : 0 ≤ (s.1 89 115).toInt ∧ (s.1 89 115).toInt ≤ 6 := h.1.2.1
theorem im_116 {s : mG} (h : IM s) : 0 ≤ (s.1 89 116).toInt ∧ (s.1 89 116).toInt ≤ 12 := h.1.2.2.1
theorem im_117 {s : mG} (h : IM s) : 0 ≤ (s.1 89 117).toInt ∧ (s.1 89 117).toInt ≤ 16 := h.1.2.2.2.1
theorem im_118 {s : mG} (h : IM s) : 0 ≤ (s.1 89 118).toInt ∧ (s.1 89 118).toInt ≤ 8 := h.1.2.2.2.2.1
theorem im_1049 {s : mG} (h : IM s) : 0 ≤ (s.1 89 1049).toInt ∧ (s.1 89 1049).toInt ≤ 8 := h.1.2.2.2.2.2.1
theorem im_2 {s : mG} (h : IM s) : 0 ≤ (s.1 89 2).toInt ∧ (s.1 89 2).toInt ≤ 150 := h.2.1.1
theorem im_tape {s : mG} (h : IM s) : 0 ≤ (s.1 88 15).toInt ∧ (s.1 88 15).toInt ≤ 400 := h.2.2.2.2.2
theorem im_back {s : mG} (h : IM s) : 0 ≤ (s.1 88 3).toInt ∧ (s.1 88 3).toInt ≤ 6 := h.2.2.2.1
theorem r_ix {c : Int32} {b : Nat} {x : Int32} (hc : c.toInt = (b : Int)) (h0 : 0 ≤ x.toInt) (h1 : x.toInt < 1000000) (hb : b < 1000000) : (c + x).toNatClampNeg = b + x.toInt.toNat := by
  rw [t_nat, t_add (by omega) (by omega), hc]; omega
theorem im_floor {s : mG} {x : Int32} (h : IM s) (h0 : 0 ≤ x.toInt) (h1 : x.toInt < 12) : 0 ≤ (s.1 89 ((c8 119) + x).toNatClampNeg).toInt ∧ (s.1 89 ((c8 119) + x).toNatClampNeg).toInt ≤ 3 := by
  rw [r_ix (b := 119) (by decide) h0 (by omega) (by decide)]
  exact h.1.2.2.2.2.2.2.1 _ (by omega)
theorem im_key {s : mG} {x : Int32} (h : IM s) (h0 : 0 ≤ x.toInt) (h1 : x.toInt < (s.1 89 112).toInt) : -1 ≤ (s.1 89 ((c8 15) + x).toNatClampNeg).toInt ∧ (s.1 89 ((c8 15) + x).toNatClampNeg).toInt < (s.1 89 112).toInt := by
  have := im_112 h
  rw [r_ix (b := 15) (by decide) h0 (by omega) (by decide)]
  exact h.2.1.2.1 _ (by omega) (by omega)
theorem r_ix2 {c d x : Int32} {b e : Nat} (hc : c.toInt = (b : Int)) (hd : d.toInt = (e : Int)) (h0 : 0 ≤ x.toInt) (h1 : x.toInt < 1000) (hb : b < 1000000) (he : e < 1000) : (c + d * x).toInt = (b : Int) + (e : Int) * x.toInt := by
  have hm : 0 ≤ (e : Int) * x.toInt := Int.mul_nonneg (by omega) h0
  have hm2 : (e : Int) * x.toInt ≤ 1000 * 1000 := Int.mul_le_mul (by omega) (by omega) h0 (by omega)
  rw [t_add (by rw [t_mul (by rw [hd]; omega) (by rw [hd]; omega), hd, hc]; omega) (by rw [t_mul (by rw [hd]; omega) (by rw [hd]; omega), hd, hc]; omega), t_mul (by rw [hd]; omega) (by rw [hd]; omega), hd, hc]
theorem im_sign {s : mG} {x : Int32} (h : IM s) (h0 : 0 ≤ x.toInt) (h1 : x.toInt < (s.1 89 115).toInt) : 1 ≤ (s.1 89 ((c16 143) + ((ci 2) * x)).toNatClampNeg).toInt ∧ (s.1 89 ((c16 143) + ((ci 2) * x)).toNatClampNeg).toInt ≤ 999 := by
  have h2 := im_115 h
  rw [t_nat, r_ix2 (b := 143) (e := 2) (by decide) (by decide) h0 (by omega) (by decide) (by decide)]
  rw [show (((143 : Nat) : Int) + ((2 : Nat) : Int) * x.toInt).toNat = 143 + (2 * x.toInt).toNat by omega]
  exact h.1.2.2.2.2.2.2.2.1 _ (by omega) (by omega)
theorem im_sign2 {s : mG} {x : Int32} (h : IM s) (h0 : 0 ≤ x.toInt) (h1 : x.toInt < (s.1 89 115).toInt) : 1 ≤ (s.1 89 (((c16 143) + ((ci 2) * x)) + (ci 1)).toNatClampNeg).toInt ∧ (s.1 89 (((c16 143) + ((ci 2) * x)) + (ci 1)).toNatClampNeg).toInt ≤ 999 := by
  have h2 := im_115 h
  have e := r_ix2 (c := c16 143) (d := ci 2) (x := x) (b := 143) (e := 2) (by decide) (by decide) h0 (by omega) (by decide) (by decide)
  rw [t_nat, t_add (by rw [e, t_c1]; omega) (by rw [e, t_c1]; omega), e, t_c1]
  rw [show (((143 : Nat) : Int) + ((2 : Nat) : Int) * x.toInt + 1).toNat = 143 + (2 * x.toInt + 1).toNat by omega]
  exact h.1.2.2.2.2.2.2.2.1 _ (by omega) (by omega)
theorem im_room {s : mG} {x : Int32} (h : IM s) (h0 : 0 ≤ x.toInt) (h1 : x.toInt < (s.1 89 118).toInt) : 0 ≤ (s.1 89 (((c16 203) + ((ci 4) * x)) + (ci 0)).toNatClampNeg).toInt ∧ (s.1 89 (((c16 203) + ((ci 4) * x)) + (ci 0)).toNatClampNeg).toInt < 12 := by
  have h2 := im_118 h
  have e := r_ix2 (c := c16 203) (d := ci 4) (x := x) (b := 203) (e := 4) (by decide) (by decide) h0 (by omega) (by decide) (by decide)
  rw [show ci 0 = 0 by decide, Int32.add_zero, t_nat, e]
  rw [show (((203 : Nat) : Int) + ((4 : Nat) : Int) * x.toInt).toNat = 203 + 4 * x.toInt.toNat by omega]
  exact h.1.2.2.2.2.2.2.2.2.1 _ (by omega) (by omega)
theorem im_caller {s : mG} {x : Int32} (h : IM s) (h0 : 0 ≤ x.toInt) (h1 : x.toInt < (s.1 89 1049).toInt) : 0 ≤ (s.1 89 ((c16 1870) + ((ci 3) * x)).toNatClampNeg).toInt ∧ (s.1 89 ((c16 1870) + ((ci 3) * x)).toNatClampNeg).toInt < 12 := by
  have h2 := im_1049 h
  rw [t_nat, r_ix2 (b := 1870) (e := 3) (by decide) (by decide) h0 (by omega) (by decide) (by decide)]
  rw [show (((1870 : Nat) : Int) + ((3 : Nat) : Int) * x.toInt).toNat = 1870 + 3 * x.toInt.toNat by omega]
  exact h.1.2.2.2.2.2.2.2.2.2.1 _ (by omega) (by omega)
theorem im_law {s : mG} {x : Int32} (h : IM s) (h0 : 0 ≤ x.toInt) (h1 : x.toInt < (s.1 89 117).toInt) : LawOK (s.1 89) x.toInt.toNat := by
  have h2 := im_117 h
  exact h.1.2.2.2.2.2.2.2.2.2.2 _ (by omega) (by omega)
