noncomputable section
/-! A CONDITION, read by both -/
theorem CodeR_add2 {nc : Nat} {a b u w : mG} {x k v : Int32} (h : CodeR nc [] a b) (he : EN x k v) (h58 : u.1 58 = mu a.1 58 3 (cn (nc + 1)) 58) (h59 : u.1 59 = mu a.1 59 nc x 59) (h93 : w.1 93 = mu (mu b.1 93 (2 * nc) k) 93 (2 * nc + 1) v 93) (h13 : w.1 88 13 = cn (nc + 1)) : CodeR (nc + 1) [] u w := by
  obtain ⟨⟨h0, h1⟩, h3, _, hE, _⟩ := h
  refine ⟨⟨?_, ?_⟩, ?_, ?_, fun j hj => ?_, fun j hj => absurd hj (by simp)⟩
  · rw [h58, mu_cell (by omega)]; exact h0
  · rw [h58, mu_cell (by omega)]; exact h1
  · rw [h58, mu_same]
  · rw [h13]; rfl
  · rw [h59, h93]
    by_cases hjn : j = nc
    · subst hjn
      rw [mu_same, mu_cell (by omega), mu_same, mu_same]; exact he
    · rw [mu_cell (by omega), mu_cell (by omega), mu_cell (by omega), mu_cell (by omega), mu_cell (by omega)]
      exact hE j (by omega)
/-- the reference lays ahead of the class -/
theorem CodeR_lag {nc k : Nat} {pend : List Nat} {a b w : mG} {v : Int32} (h : CodeR nc pend a b) (h93 : w.1 93 = mu (mu b.1 93 (2 * (nc + pend.length)) (cn k)) 93 (2 * (nc + pend.length) + 1) v 93) (h13 : w.1 88 13 = cn (nc + pend.length + 1)) : CodeR nc (pend ++ [k]) a w := by
  obtain ⟨h0, h3, _, hE, hP⟩ := h
  refine ⟨h0, h3, ?_, fun j hj => ?_, fun j hj => ?_⟩
  · rw [h13]; congr 1; simp; omega
  · rw [h93, mu_cell (by omega), mu_cell (by omega), mu_cell (by omega), mu_cell (by omega)]
    exact hE j hj
  · rw [h93]
    have hj2 : j < pend.length + 1 := by simp at hj; omega
    by_cases hjp : j = pend.length
    · subst hjp
      rw [mu_cell (by omega), mu_same]
      congr 1
      rw [List.getD_eq_getElem?_getD, List.getElem?_append_right (Nat.le_refl _), Nat.sub_self]
      rfl
    · rw [mu_cell (by omega), mu_cell (by omega), hP j (by omega)]
      congr 1
      rw [List.getD_eq_getElem?_getD, List.getD_eq_getElem?_getD, List.getElem?_append_left (by omega)]
theorem opn_ps : ∀ (ps W : List Int32), (∀ s, s ∈ ps → s = c16 273 ∨ s = c16 272) → opn (ps ++ W) = opn W := by
  intro ps W
  induction ps with
  | nil => intro _; rfl
  | cons x ps ih =>
    intro h
    show (if x = c8 40 ∨ x = c16 274 then 1 else 0) + opn (ps ++ W) = _
    rw [ih (fun s hs => h s (List.mem_cons_of_mem _ hs))]
    rcases h x (by simp) with e | e
    · subst e; rw [if_neg (by decide)]; omega
    · subst e; rw [if_neg (by decide)]; omega
section BOTH
variable {T : Nat → Int32} {len m : Nat} {B : Nat → Nat}
/-- what a piece of a condition comes to; P: how it stands behind it -/
def CQ (i : Nat) (b : mG) (r : Int32 × mG) (v : Int32) (b' : mG) (P : Nat → Nat → mG → Prop) : Prop := RH b b' ∧ (v = 0 → r.1 = ci 0 ∧ FE r.2 b') ∧ (¬ v = 0 → ∃ i' nc' a', i < i' ∧ P i' nc' a')
def OTP (T : Nat → Int32) (len m : Nat) (B : Nat → Nat) (rec : mG → Option (Int32 × mG)) : Prop := ∀ i nc W a b r v b', SC T len m B i nc [] W a b → W.length ≤ 3 * opn W + 2 → 0 < i → KAO i a r → rec b = some (v, b') → CQ i b r v b' (fun i' nc' a' => SC T len m B i' nc' [] W a' b' ∧ KOC i' (opn W) a' r)
theorem EL_bw {rec : mG → Option (Int32 × mG)} {b : mG} : F_X12_every_L9 rec b = bw (F_X12_every_B9 rec b) (F_X12_every_L9 rec) := whl_bw _ _
theorem AL_bw {rec : mG → Option (Int32 × mG)} {b : mG} : F_X12_any_L9 rec b = bw (F_X12_any_B9 rec b) (F_X12_any_L9 rec) := whl_bw _ _
def topO (W : List Int32) : Prop := topW W ≠ c16 273 ∧ topW W ≠ c16 272 ∧ topW W ≠ c16 274
theorem lay_facts {b w : mG} {n : Nat} {k v : Int32} (h : w = (mu (mu (mu b.1 93 (2 * n) k) 93 (2 * n + 1) v) 88 13 (cn (n + 1)), b.2)) : w.1 93 = mu (mu b.1 93 (2 * n) k) 93 (2 * n + 1) v 93 ∧ w.1 88 13 = cn (n + 1) ∧ RG b w := by
  subst h
  exact ⟨mu_rowQ (by omega), mu_sameQ, RG_lay⟩
theorem RP_RG13 {i n : Nat} {b w : mG} {k v : Int32} (h : RP T len 0 m B i b) (e : w = (mu (mu (mu b.1 93 (2 * n) k) 93 (2 * n + 1) v) 88 13 (cn (n + 1)), b.2)) : RP T len 0 m B i w := by
  subst e
  exact RP_lay h
/-- and .. and .. -/
theorem S_everyL {rec : mG → Option (Int32 × mG)} (hS : ST T len 0 m B) (hrec : OTP T len m B rec) {ps0 W : List Int32} {r : Int32 × mG} (hp0 : ps0 = [] ∨ ps0 = [c16 272]) (hW : topO W) (hWl : W.length ≤ 3 * opn W) : ∀ (n i nc : Nat) (ps : List Int32) (a b : mG) (v : Int32) (b' : mG), m - i ≤ n → 0 < i → (ps = [] ∨ ps = [c16 273]) → SC T len m B i nc (ps.map sc) (ps ++ (ps0 ++ W)) a b → KD i a r → F_X12_every_L9 rec b = some (v, b') → CQ (i - 1) b r v b' (fun i' nc' a' => ∃ ps, (ps = [] ∨ ps = [c16 273]) ∧ SC T len m B i' nc' (ps.map sc) (ps ++ (ps0 ++ W)) a' b' ∧ KD i' a' r ∧ ¬ a'.1 55 14 = c16 273) := by
  have hps0 : ∀ s, s ∈ ps0 → s = c16 273 ∨ s = c16 272 := fun s hs => by
    rcases hp0 with e | e <;> subst e
    · cases hs
    · simp at hs; exact Or.inr hs
  have hl0 : ps0.length ≤ 1 := by rcases hp0 with e | e <;> subst e <;> simp
  have hpsf : ∀ ps : List Int32, (ps = [] ∨ ps = [c16 273]) → (∀ s, s ∈ ps → s = c16 273) ∧ ps.length ≤ 1 := fun ps h => by
    rcases h with e | e <;> subst e
    · exact ⟨fun s hs => (by cases hs), by simp⟩
    · exact ⟨fun s hs => by simpa using hs, by simp⟩
  intro n
  induction n with
  | zero =>
    intro i nc ps a b v b' hn h0 hps h hK hb
    obtain ⟨h1, h2, h3, h4, h5, h6, h7⟩ := h
    have him := h1.2.1
    have hk := (PR_facts hS h1 h2).2.2.2.mpr (by omega)
    have hKP := (PR_facts hS h1 h2).1
    have n1 : ¬ a.1 55 14 = c16 273 := by rw [hk]; decide
    rw [EL_bw] at hb
    unfold F_X12_every_B9 at hb
    rw [if_neg (fun q => n1 ((K_and hKP).mp q)), bw_r] at hb
    cases hb
    exact ⟨RH_RG RG_rfl, fun e => absurd e c1n0, fun _ => ⟨i, nc, a, by omega, ps, hps, ⟨h1, h2, h3, h4, h5, h6, h7⟩, hK, n1⟩⟩
  | succ n ih =>
    intro i nc ps a b v b' hn h0 hps h hK hb
    obtain ⟨h1, h2, h3, h4, h5, h6, h7⟩ := h
    have him := h1.2.1
    have m4 := hS.2.2.1
    have hKP := (PR_facts hS h1 h2).1
    obtain ⟨hpa, hpl⟩ := hpsf ps hps
    rw [EL_bw] at hb
    unfold F_X12_every_B9 at hb
    by_cases n1 : a.1 55 14 = c16 273
    · have hi : i < m := S_lt hS h1 h2 (by rw [n1]; decide)
      rw [if_pos ((K_and hKP).mpr n1), bw_b1] at hb
      obtain ⟨s7, e7, hb⟩ := m_b1 hb
      obtain ⟨g1, g2⟩ := V_next hS h1.1 h2 hi s7 e7
      rw [bw_b2] at hb
      obtain ⟨v10, s9, e9, hb⟩ := m_b2 hb
      have eo : opn (ps ++ (ps0 ++ W)) = opn W := by
        rw [opn_ps ps _ (fun s hs => Or.inl (hpa s hs)), opn_ps ps0 W hps0]
      have hlen : (ps ++ (ps0 ++ W)).length = ps.length + ps0.length + W.length := by simp; omega
      rw [eo] at h5 h6
      rw [hlen] at h7
      -- the class
      obtain ⟨x, hx, K1⟩ := D_exit (by omega) (Or.inl (by rw [n1]; decide)) hK
      have htop : topW (ps0 ++ W) ≠ c16 273 ∧ (topW (ps0 ++ W) = c16 272 → ci 1 = ci 1) := by
        refine ⟨?_, fun _ => rfl⟩
        rcases hp0 with e | e <;> subst e
        · exact hW.1
        · show c16 272 ≠ c16 273; decide
      obtain ⟨u, u1, u2, u3, u4, u5, u6⟩ := E_more (nc := nc) (b := b) (W := ps0 ++ W) (ps := ps) (rest := []) (x1 := ci 1) h1 hi m4 hx h4 (by rw [hlen]; omega) (by simp; omega) (Or.inl ⟨n1, rfl⟩) (fun s hs => Or.inl (hpa s hs)) htop (by omega) (by rw [List.append_nil]; exact h3) K1
      rw [n1] at u2 u3
      have eo2 : opn (c16 273 :: (ps0 ++ W)) = opn W := by
        have := opn_ps ([c16 273] ++ ps0) W (fun s hs => by
          rcases List.mem_append.mp hs with q | q
          · simp at q; exact Or.inl q
          · exact hps0 s q)
        exact this
      have hlen2 : (c16 273 :: (ps0 ++ W)).length = 1 + ps0.length + W.length := by simp; omega
      have hSC : SC T len m B (i + 1) (nc + ps.length) [] (c16 273 :: (ps0 ++ W)) u s7 := by
        refine ⟨u1, g1, CodeR_step u5 CFr_rfl g2, ⟨u2, u3, ?_⟩, ?_, by rw [eo2]; exact h6, by rw [hlen2]; omega⟩
        · rw [u4, h4.2.2, eo, eo2]
        · rw [g2.2.2 23 (by omega) (by omega) (by omega) (by omega), eo2]; exact h5
      have hq := hrec (i + 1) (nc + ps.length) _ u s7 r v10 s9 hSC (by rw [hlen2, eo2]; omega) (by omega) u6 e9
      by_cases hv : v10 = 0
      · rw [if_pos hv, bw_r] at hb
        cases hb
        exact ⟨RH_tr (RH_RG (RG_next g2)) hq.1, fun _ => hq.2.1 hv, fun e => absurd c0e0 e⟩
      · rw [if_neg hv, bw_b1] at hb
        obtain ⟨s13, e13, hb⟩ := m_b1 hb
        obtain ⟨i', nc', a', z1, z2, z3⟩ := hq.2.2 hv
        obtain ⟨y1, y2, y3, y4, y5, y6, y7⟩ := z2
        have him' := y1.2.1
        have e13' := V_lay (n := nc') y3.2.2.1 (by rw [hlen2] at y7; omega) s13 e13
        obtain ⟨l1, l2, l3⟩ := lay_facts e13'
        have hKD := O_exit (W := c16 273 :: (ps0 ++ W)) y4 (by rw [hlen2]; omega) (by show ¬ c16 273 = c16 274; decide) z3
        have hcd : CodeR nc' (([c16 273] : List Int32).map sc) a' s13 := by
          have hc := CodeR_lag (k := 31) (v := ci 0) y3 (by
            show s13.1 93 = mu (mu s9.1 93 (2 * (nc' + 0)) (cn 31)) 93 (2 * (nc' + 0) + 1) (ci 0) 93
            rw [Nat.add_zero]
            exact l1) (by show s13.1 88 13 = cn (nc' + 0 + 1); exact l2)
          exact hc
        have hr := ih i' nc' [c16 273] a' s13 v b' (by omega) (by omega) (Or.inr rfl) ⟨y1, RP_RG13 y2 e13', hcd, y4, by rw [l3.2.2 23 (by omega) (by omega) (by omega) (by omega) (by omega) (by omega) (by omega)]; exact y5, y6, y7⟩ hKD hb
        refine ⟨RH_tr (RH_RG (RG_next g2)) (RH_tr hq.1 (RH_tr (RH_RG l3) hr.1)), hr.2.1, fun e => ?_⟩
        obtain ⟨i2, nc2, a2, q1, q2⟩ := hr.2.2 e
        exact ⟨i2, nc2, a2, by omega, q2⟩
    · rw [if_neg (fun q => n1 ((K_and hKP).mp q)), bw_r] at hb
      cases hb
      exact ⟨RH_RG RG_rfl, fun e => absurd e c1n0, fun _ => ⟨i, nc, a, by omega, ps, hps, ⟨h1, h2, h3, h4, h5, h6, h7⟩, hK, n1⟩⟩
theorem S_every {rec : mG → Option (Int32 × mG)} (hS : ST T len 0 m B) (hrec : OTP T len m B rec) {ps0 W : List Int32} {r : Int32 × mG} (hp0 : ps0 = [] ∨ ps0 = [c16 272]) (hW : topO W) (hWl : W.length ≤ 3 * opn W) {i nc : Nat} {a b : mG} {v : Int32} {b' : mG} (h0 : 0 < i) (h : SC T len m B i nc [] (ps0 ++ W) a b) (K : KAO i a r) (hb : F_X12_every rec b = some (v, b')) : CQ i b r v b' (fun i' nc' a' => ∃ ps, (ps = [] ∨ ps = [c16 273]) ∧ SC T len m B i' nc' (ps.map sc) (ps ++ (ps0 ++ W)) a' b' ∧ KD i' a' r ∧ ¬ a'.1 55 14 = c16 273) := by
  have hps0 : ∀ s, s ∈ ps0 → s = c16 273 ∨ s = c16 272 := fun s hs => by
    rcases hp0 with e | e <;> subst e
    · cases hs
    · simp at hs; exact Or.inr hs
  have hl0 : ps0.length ≤ 1 := by rcases hp0 with e | e <;> subst e <;> simp
  have eo := opn_ps ps0 W hps0
  have hlen : (ps0 ++ W).length = ps0.length + W.length := by simp
  unfold F_X12_every at hb
  obtain ⟨v3, s2, e2, hb⟩ := m_b2 hb
  have hq := hrec i nc _ a b r v3 s2 h (by rw [hlen, eo]; omega) h0 K e2
  by_cases hv : v3 = 0
  · rw [if_pos hv] at hb
    cases hb
    exact ⟨hq.1, fun _ => hq.2.1 hv, fun e => absurd c0e0 e⟩
  · rw [if_neg hv] at hb
    obtain ⟨i', nc', a', z1, z2, z3⟩ := hq.2.2 hv
    have htop : ¬ topW (ps0 ++ W) = c16 274 := by
      rcases hp0 with e | e <;> subst e
      · exact hW.2.2
      · show ¬ c16 272 = c16 274; decide
    have hop : opn W ≤ 8 := by have := z2.2.2.2.2.2.1; rw [eo] at this; exact this
    have hKD := O_exit (W := ps0 ++ W) z2.2.2.2.1 (by rw [hlen]; omega) htop z3
    have hr := S_everyL hS hrec hp0 hW hWl (m - i') i' nc' [] a' s2 v b' (Nat.le_refl _) (by omega) (Or.inl rfl) z2 hKD hb
    refine ⟨RH_tr hq.1 hr.1, hr.2.1, fun e => ?_⟩
    obtain ⟨i2, nc2, a2, q1, q2⟩ := hr.2.2 e
    exact ⟨i2, nc2, a2, by omega, q2⟩
/-- or .. or .. -/
theorem S_anyL {rec : mG → Option (Int32 × mG)} (hS : ST T len 0 m B) (hrec : OTP T len m B rec) {W : List Int32} {r : Int32 × mG} (hW : topO W) (hWl : W.length ≤ 3 * opn W) : ∀ (n i nc : Nat) (ps : List Int32) (a b : mG) (v : Int32) (b' : mG), m - i ≤ n → 0 < i → (∀ s, s ∈ ps → s = c16 273 ∨ s = c16 272) → ps.length ≤ 2 → SC T len m B i nc (ps.map sc) (ps ++ W) a b → KD i a r → ¬ a.1 55 14 = c16 273 → F_X12_any_L9 rec b = some (v, b') → CQ (i - 1) b r v b' (fun i' nc' a' => ∃ ps : List Int32, (∀ s, s ∈ ps → s = c16 273 ∨ s = c16 272) ∧ ps.length ≤ 2 ∧ SC T len m B i' nc' (ps.map sc) (ps ++ W) a' b' ∧ KD i' a' r ∧ ¬ a'.1 55 14 = c16 273 ∧ ¬ a'.1 55 14 = c16 272) := by
  intro n
  induction n with
  | zero =>
    intro i nc ps a b v b' hn h0 hps hpl h hK hna hb
    obtain ⟨h1, h2, h3, h4, h5, h6, h7⟩ := h
    have him := h1.2.1
    have hk := (PR_facts hS h1 h2).2.2.2.mpr (by omega)
    have hKP := (PR_facts hS h1 h2).1
    have n1 : ¬ a.1 55 14 = c16 272 := by rw [hk]; decide
    rw [AL_bw] at hb
    unfold F_X12_any_B9 at hb
    rw [if_neg (fun q => n1 ((K_or hKP).mp q)), bw_r] at hb
    cases hb
    exact ⟨RH_RG RG_rfl, fun e => absurd e c1n0, fun _ => ⟨i, nc, a, by omega, ps, hps, hpl, ⟨h1, h2, h3, h4, h5, h6, h7⟩, hK, hna, n1⟩⟩
  | succ n ih =>
    intro i nc ps a b v b' hn h0 hps hpl h hK hna hb
    obtain ⟨h1, h2, h3, h4, h5, h6, h7⟩ := h
    have him := h1.2.1
    have m4 := hS.2.2.1
    have hKP := (PR_facts hS h1 h2).1
    rw [AL_bw] at hb
    unfold F_X12_any_B9 at hb
    by_cases n1 : a.1 55 14 = c16 272
    · have hi : i < m := S_lt hS h1 h2 (by rw [n1]; decide)
      rw [if_pos ((K_or hKP).mpr n1), bw_b1] at hb
      obtain ⟨s7, e7, hb⟩ := m_b1 hb
      obtain ⟨g1, g2⟩ := V_next hS h1.1 h2 hi s7 e7
      rw [bw_b2] at hb
      obtain ⟨v10, s9, e9, hb⟩ := m_b2 hb
      have eo : opn (ps ++ W) = opn W := opn_ps ps W hps
      have hlen : (ps ++ W).length = ps.length + W.length := by simp
      rw [eo] at h5 h6
      rw [hlen] at h7
      obtain ⟨x, hx, K1⟩ := D_exit (by omega) (Or.inl (by rw [n1]; decide)) hK
      obtain ⟨u, u1, u2, u3, u4, u5, u6⟩ := E_more (nc := nc) (b := b) (W := W) (ps := ps) (rest := []) (x1 := ci 0) h1 hi m4 hx h4 (by rw [hlen]; omega) (by omega) (Or.inr ⟨n1, rfl⟩) (fun s hs => (hps s hs).elim Or.inl (fun e => Or.inr ⟨e, rfl⟩)) ⟨hW.1, fun e => absurd e hW.2.1⟩ (by omega) (by rw [List.append_nil]; exact h3) K1
      rw [n1] at u2 u3
      have eo2 : opn ([c16 272] ++ W) = opn W := opn_ps [c16 272] W (fun s hs => by simp at hs; exact Or.inr hs)
      have hlen2 : ([c16 272] ++ W).length = 1 + W.length := by simp; omega
      have hSC : SC T len m B (i + 1) (nc + ps.length) [] ([c16 272] ++ W) u s7 := by
        refine ⟨u1, g1, CodeR_step u5 CFr_rfl g2, ⟨u2, u3, ?_⟩, ?_, by rw [eo2]; exact h6, by rw [hlen2]; omega⟩
        · rw [u4, h4.2.2, eo, eo2]
        · rw [g2.2.2 23 (by omega) (by omega) (by omega) (by omega), eo2]; exact h5
      have hq := S_every hS hrec (ps0 := [c16 272]) (Or.inr rfl) hW hWl (by omega) hSC u6 e9
      by_cases hv : v10 = 0
      · rw [if_pos hv, bw_r] at hb
        cases hb
        exact ⟨RH_tr (RH_RG (RG_next g2)) hq.1, fun _ => hq.2.1 hv, fun e => absurd c0e0 e⟩
      · rw [if_neg hv, bw_b1] at hb
        obtain ⟨s13, e13, hb⟩ := m_b1 hb
        obtain ⟨i', nc', a', z1, ps1, hp1, z2, z3, z4⟩ := hq.2.2 hv
        obtain ⟨y1, y2, y3, y4, y5, y6, y7⟩ := z2
        have him' := y1.2.1
        have hpa : (∀ s, s ∈ ps1 → s = c16 273) ∧ ps1.length ≤ 1 := by
          rcases hp1 with e | e <;> subst e
          · exact ⟨fun s hs => (by cases hs), by simp⟩
          · exact ⟨fun s hs => by simpa using hs, by simp⟩
        have hlen3 : (ps1 ++ ([c16 272] ++ W)).length = ps1.length + 1 + W.length := by simp; omega
        have e13' := V_lay (n := nc' + ps1.length) (by have := y3.2.2.1; rw [List.length_map] at this; exact this) (by rw [hlen3] at y7; omega) s13 e13
        obtain ⟨l1, l2, l3⟩ := lay_facts e13'
        have hcd : CodeR nc' ((ps1 ++ [c16 272]).map sc) a' s13 := by
          have hc := CodeR_lag (k := 32) (v := ci 0) y3 (by rw [List.length_map]; exact l1) (by rw [List.length_map]; exact l2)
          rw [List.map_append]
          exact hc
        have hassoc : ps1 ++ ([c16 272] ++ W) = (ps1 ++ [c16 272]) ++ W := (List.append_assoc _ _ _).symm
        rw [hassoc] at y4 y5 y6 y7
        have hr := ih i' nc' (ps1 ++ [c16 272]) a' s13 v b' (by omega) (by omega) (fun s hs => by
          rcases List.mem_append.mp hs with q | q
          · exact Or.inl (hpa.1 s q)
          · simp at q; exact Or.inr q) (by simp; exact hpa.2) ⟨y1, RP_RG13 y2 e13', hcd, y4, by rw [l3.2.2 23 (by omega) (by omega) (by omega) (by omega) (by omega) (by omega) (by omega)]; exact y5, y6, y7⟩ z3 z4 hb
        refine ⟨RH_tr (RH_RG (RG_next g2)) (RH_tr hq.1 (RH_tr (RH_RG l3) hr.1)), hr.2.1, fun e => ?_⟩
        obtain ⟨i2, nc2, a2, q1, q2⟩ := hr.2.2 e
        exact ⟨i2, nc2, a2, by omega, q2⟩
    · rw [if_neg (fun q => n1 ((K_or hKP).mp q)), bw_r] at hb
      cases hb
      exact ⟨RH_RG RG_rfl, fun e => absurd e c1n0, fun _ => ⟨i, nc, a, by omega, ps, hps, hpl, ⟨h1, h2, h3, h4, h5, h6, h7⟩, hK, hna, n1⟩⟩
theorem S_any {rec : mG → Option (Int32 × mG)} (hS : ST T len 0 m B) (hrec : OTP T len m B rec) {W : List Int32} {r : Int32 × mG} (hW : topO W) (hWl : W.length ≤ 3 * opn W) {i nc : Nat} {a b : mG} {v : Int32} {b' : mG} (h0 : 0 < i) (h : SC T len m B i nc [] W a b) (K : KAO i a r) (hb : F_X12_any rec b = some (v, b')) : CQ i b r v b' (fun i' nc' a' => ∃ ps : List Int32, (∀ s, s ∈ ps → s = c16 273 ∨ s = c16 272) ∧ ps.length ≤ 2 ∧ SC T len m B i' nc' (ps.map sc) (ps ++ W) a' b' ∧ KD i' a' r ∧ ¬ a'.1 55 14 = c16 273 ∧ ¬ a'.1 55 14 = c16 272) := by
  unfold F_X12_any at hb
  obtain ⟨v3, s2, e2, hb⟩ := m_b2 hb
  have hq := S_every hS hrec (ps0 := []) (Or.inl rfl) hW hWl h0 h K e2
  by_cases hv : v3 = 0
  · rw [if_pos hv] at hb
    cases hb
    exact ⟨hq.1, fun _ => hq.2.1 hv, fun e => absurd c0e0 e⟩
  · rw [if_neg hv] at hb
    obtain ⟨i', nc', a', z1, ps1, hp1, z2, z3, z4⟩ := hq.2.2 hv
    have hpa : (∀ s, s ∈ ps1 → s = c16 273 ∨ s = c16 272) ∧ ps1.length ≤ 2 := by
      rcases hp1 with e | e <;> subst e
      · exact ⟨fun s hs => (by cases hs), by simp⟩
      · exact ⟨fun s hs => by simp at hs; exact Or.inl hs, by simp⟩
    have hr := S_anyL hS hrec hW hWl (m - i') i' nc' ps1 a' s2 v b' (Nat.le_refl _) (by omega) hpa.1 hpa.2 z2 z3 z4 hb
    refine ⟨RH_tr hq.1 hr.1, hr.2.1, fun e => ?_⟩
    obtain ⟨i2, nc2, a2, q1, q2⟩ := hr.2.2 e
    exact ⟨i2, nc2, a2, by omega, q2⟩
end BOTH
end
