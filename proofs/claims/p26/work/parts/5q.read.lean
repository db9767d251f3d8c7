noncomputable section
/-! A TEXT, from its first token to its last, and what both answer -/
/-- the shapes of what is read into -/
def RS0 (a : mG) : Prop := a.1 65 0 = cn 401 ∧ a.1 65 1 = cn 3 ∧ a.1 56 0 = cn 16 ∧ a.1 56 1 = cn 4 ∧ a.1 58 0 = cn 400 ∧ a.1 58 1 = cn 1 ∧ a.1 60 0 = cn 6 ∧ a.1 60 1 = cn 2 ∧ a.1 62 0 = cn 12 ∧ a.1 62 1 = cn 4
def refBody (k : Int32) (b : mG) : Option (Int32 × mG) := b1 (F_X12_next0 b) fun s11 => if k = 0 then F_X12_readsLaw s11 else F_X12_readsRows s11
theorem S_read {T : Nat → Int32} {len r : Nat} {a b : mG} (hr : r < 3) (hlen : len ≤ 400) (hB : ∀ k, k < len → 0 ≤ (T k).toInt ∧ (T k).toInt ≤ 255) (h64 : a.1 64 = T) (h9 : a.1 55 9 = cn len) (hsh : RS0 a) (h95 : ∀ k, k < len → b.1 95 k = T k) (h15 : b.1 88 15 = cn len) (h11 : b.1 88 11 = cn r ∧ b.1 88 22 = ci 0 ∧ b.1 88 24 = ci (-1)) (h16 : b.1 88 16 = cn 0) : rel (F_X7_readText (cn r) a) (refBody (cn r) b) (fun τ υ => τ.1 = υ.1 ∧ PB τ.1 ∧ (τ.1 = 0 → FE τ.2 υ.2) ∧ (¬ τ.1 = 0 → τ.2.1 55 10 = ci 0 ∧ τ.2.1 55 11 = ci (-1) ∧ ∃ m B, (r = 0 → INVL T len m B m τ.2 υ.2) ∧ (r = 1 → INVR T len 1 m B 60 2 6 m τ.2 υ.2) ∧ (r = 2 → INVR T len 2 m B 62 4 12 m τ.2 υ.2))) := by
  obtain ⟨t0, t1, u0, u1, v0, v1, w0, w1, x0, x1⟩ := hsh
  unfold F_X7_readText refBody
  rw [if_neg (cn_nn (by omega)), if_pos ((cle (x := cn r) (y := ci 2) (b := 2) rfl rfl (by omega) (by omega)).mpr (by omega))]
  dsimp only
  have hRD : RDs T len (mu (mu a.1 55 10 (ci 0)) 55 11 (ci (-1)), a.2) := ⟨((mu_rowQ (by omega)).trans (mu_row (by omega))).trans h64, ((mu_cellQ (by omega)).trans (mu_cell (by omega))).trans h9, hlen⟩
  refine rel_l1 (V_splitTape hRD ⟨(congrFun ((mu_rowQ (by omega)).trans (mu_row (by omega))) 0).trans t0, (congrFun ((mu_rowQ (by omega)).trans (mu_row (by omega))) 1).trans t1⟩) (fun s6 q => ?_)
  obtain ⟨⟨m, B, hK⟩, f1, f2, f3⟩ := q
  have hS : ST T len r m B := ⟨hlen, hr, hK.1, hB⟩
  have rw6 : ∀ j, j ≠ 55 → j ≠ 65 → j ≠ 66 → s6.1 j = a.1 j := fun j a1 a2 a3 => (f2 j a1 a2 a3).trans ((mu_rowQ a1).trans (mu_row a1))
  have c10 : s6.1 55 10 = ci 0 := (f3 10 (by omega)).trans ((mu_cellQ (by omega)).trans mu_same)
  have c11 : s6.1 55 11 = ci (-1) := (f3 11 (by omega)).trans mu_sameQ
  unfold F_X10_clear
  dsimp only
  rw [b1_some, b1_some, b1_some, b1_some]
  generalize hD : mu (mu (mu (mu (mu s6.1 56 3 (ci 0)) 58 3 (ci 0)) 60 3 (ci 0)) 62 3 (ci 0)) 55 12 (ci (-1)) = D
  have d65 : D 65 = s6.1 65 := by rw [← hD, mu_row (by omega), mu_row (by omega), mu_row (by omega), mu_row (by omega), mu_row (by omega)]
  have d66 : D 66 = s6.1 66 := by rw [← hD, mu_row (by omega), mu_row (by omega), mu_row (by omega), mu_row (by omega), mu_row (by omega)]
  have d55 : ∀ c, c ≠ 12 → D 55 c = s6.1 55 c := fun c hc => by rw [← hD, mu_cell (Or.inr hc), mu_row (by omega), mu_row (by omega), mu_row (by omega), mu_row (by omega)]
  have d12 : D 55 12 = ci (-1) := by rw [← hD, mu_same]
  have d56 : ∀ c, c ≠ 3 → D 56 c = a.1 56 c := fun c hc => by rw [← hD, mu_row (by omega), mu_row (by omega), mu_row (by omega), mu_row (by omega), mu_cell (Or.inr hc), rw6 56 (by omega) (by omega) (by omega)]
  have d563 : D 56 3 = cn 0 := by rw [← hD, mu_row (by omega), mu_row (by omega), mu_row (by omega), mu_row (by omega), mu_same]; rfl
  have d58 : ∀ c, c ≠ 3 → D 58 c = a.1 58 c := fun c hc => by rw [← hD, mu_row (by omega), mu_row (by omega), mu_row (by omega), mu_cell (Or.inr hc), mu_row (by omega), rw6 58 (by omega) (by omega) (by omega)]
  have d583 : D 58 3 = cn 0 := by rw [← hD, mu_row (by omega), mu_row (by omega), mu_row (by omega), mu_same]; rfl
  have d60 : ∀ c, c ≠ 3 → D 60 c = a.1 60 c := fun c hc => by rw [← hD, mu_row (by omega), mu_row (by omega), mu_cell (Or.inr hc), mu_row (by omega), mu_row (by omega), rw6 60 (by omega) (by omega) (by omega)]
  have d603 : D 60 3 = cn 0 := by rw [← hD, mu_row (by omega), mu_row (by omega), mu_same]; rfl
  have d62 : ∀ c, c ≠ 3 → D 62 c = a.1 62 c := fun c hc => by rw [← hD, mu_row (by omega), mu_cell (Or.inr hc), mu_row (by omega), mu_row (by omega), mu_row (by omega), rw6 62 (by omega) (by omega) (by omega)]
  have d623 : D 62 3 = cn 0 := by rw [← hD, mu_row (by omega), mu_same]; rfl
  clear hD
  have hKD : TKA T len m B (D, s6.2) := TKA_row hK d65 d66
  refine rel_l1 (V_stepG (j := 0) hKD (by show D 55 12 + ci 1 = cn 0; rw [d12]; decide) (Nat.zero_le _)) (fun s17 q => ?_)
  obtain ⟨g1, g2⟩ := q
  refine rel_r1 (V_nextG (j := 0) hS hKD h95 h15 h11 (by rw [h16, hK.2.1]) (by rw [hK.2.1]; omega) (Nat.zero_le _)) (fun s11 q => ?_)
  obtain ⟨g3, g4⟩ := q
  -- the old fault
  have z10 : s17.1 55 10 = ci 0 := (g2.2.2 10 (by omega) (by omega) (by omega) (by omega)).trans ((d55 10 (by omega)).trans c10)
  have z11 : s17.1 55 11 = ci (-1) := (g2.2.2 11 (by omega) (by omega) (by omega) (by omega)).trans ((d55 11 (by omega)).trans c11)
  have keep : ∀ τ, F_X7_readText_L64 (cn r) (ci 0) s17 = some τ → ¬ τ.1 = 0 → τ.2.1 55 10 = ci 0 ∧ τ.2.1 55 11 = ci (-1) := fun τ hτ hne => by
    have q := (kt_loop (z := s17) (k := cn r) (x := ci 0) ⟨rfl, rfl⟩ τ hτ).resolve_left hne
    exact ⟨q.1.trans z10, q.2.trans z11⟩
  have e : r = 0 ∨ r = 1 ∨ r = 2 := by omega
  rcases e with e | e | e
  · subst e
    rw [if_pos (by decide)]
    unfold F_X12_readsLaw
    dsimp only
    have inv : INVL T len m B 0 s17 (mu (mu s11.1 88 12 (ci 0)) 88 13 (ci 0), s11.2) := by
      refine ⟨0, 0, ⟨g1, RP_same g3 ((mu_rowQ (by omega)).trans (mu_row (by omega))) (fun c hc => (mu_cellQ (by omega)).trans (mu_cell (by omega))), ⟨⟨?_, ?_⟩, ?_, ?_, fun j hj => absurd hj (by omega), fun j hj => absurd hj (by simp)⟩, by omega⟩, by omega, ?_, ?_, ?_, ?_, fun j hj => absurd hj (by omega)⟩
      · rw [g2.2.1 58 (by omega)]; exact (d58 0 (by omega)).trans v0
      · rw [g2.2.1 58 (by omega)]; exact (d58 1 (by omega)).trans v1
      · rw [g2.2.1 58 (by omega)]; exact d583
      · exact mu_sameQ.trans rfl
      · rw [g2.2.1 56 (by omega)]; exact (d56 0 (by omega)).trans u0
      · rw [g2.2.1 56 (by omega)]; exact (d56 1 (by omega)).trans u1
      · rw [g2.2.1 56 (by omega)]; exact d563
      · exact (mu_cellQ (by omega)).trans (mu_same.trans rfl)
    intro τ hτ υ hυ
    obtain ⟨q1, q2, q3, q4⟩ := S_lawLoop (x := 0) hS (Nat.le_refl _) inv τ hτ υ hυ
    refine ⟨q1, q2, q3, fun hne => ⟨(keep τ hτ hne).1, (keep τ hτ hne).2, m, B, fun _ => q4 hne, fun e => absurd e (by omega), fun e => absurd e (by omega)⟩⟩
  · subst e
    rw [if_neg (by decide)]
    unfold F_X12_readsRows
    dsimp only
    have inv : INVR T len 1 m B 60 2 6 0 s17 (mu s11.1 88 14 (ci 0), s11.2) := by
      refine ⟨g1, RP_same g3 (mu_rowQ (by omega)) (fun c hc => mu_cellQ (by omega)), 0, by omega, ?_, ?_, ?_, mu_sameQ.trans rfl, fun k hk => absurd hk (by omega)⟩
      · rw [g2.2.1 60 (by omega)]; exact (d60 0 (by omega)).trans w0
      · rw [g2.2.1 60 (by omega)]; exact (d60 1 (by omega)).trans w1
      · rw [g2.2.1 60 (by omega)]; exact d603
    intro τ hτ υ hυ
    obtain ⟨q1, q2, q3, q4⟩ := S_signLoop (x := 0) hS (Nat.le_refl _) inv τ hτ υ hυ
    refine ⟨q1, q2, q3, fun hne => ⟨(keep τ hτ hne).1, (keep τ hτ hne).2, m, B, fun e => absurd e (by omega), fun _ => q4 hne, fun e => absurd e (by omega)⟩⟩
  · subst e
    rw [if_neg (by decide)]
    unfold F_X12_readsRows
    dsimp only
    have inv : INVR T len 2 m B 62 4 12 0 s17 (mu s11.1 88 14 (ci 0), s11.2) := by
      refine ⟨g1, RP_same g3 (mu_rowQ (by omega)) (fun c hc => mu_cellQ (by omega)), 0, by omega, ?_, ?_, ?_, mu_sameQ.trans rfl, fun k hk => absurd hk (by omega)⟩
      · rw [g2.2.1 62 (by omega)]; exact (d62 0 (by omega)).trans x0
      · rw [g2.2.1 62 (by omega)]; exact (d62 1 (by omega)).trans x1
      · rw [g2.2.1 62 (by omega)]; exact d623
    intro τ hτ υ hυ
    obtain ⟨q1, q2, q3, q4⟩ := S_shiftLoop (x := 0) hS (Nat.le_refl _) inv τ hτ υ hυ
    refine ⟨q1, q2, q3, fun hne => ⟨(keep τ hτ hne).1, (keep τ hτ hne).2, m, B, fun e => absurd e (by omega), fun e => absurd e (by omega), fun _ => q4 hne⟩⟩
end
