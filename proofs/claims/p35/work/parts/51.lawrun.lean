set_option maxRecDepth 100000 in
set_option maxHeartbeats 8000000 in
theorem m_in1_eq (N : Nat) (xs : Nat → Int32) : m_in1 N xs = m_in1 0 (fun _ => 0) := rfl
theorem m_H1_eq : m_H1 = (SH.take 88, m_H1.2) := Prod.ext m_in1_sh rfl
theorem m_c1 (N : Nat) (xs : Nat → Int32) : m_run m_tab N xs 3000 100 me139 0 [some (.ref 0)] [] m_H0 = some (none, (SH.take 88, m_H1.2)) := by
  have h1 := m_in1_eq N xs
  have h2 := m_out_eq m_in1_ok
  rw [h2] at h1
  rw [← m_H1_eq]
  exact h1
theorem m_pe {α β : Type} {p : α × β} {a : α} (h : p.1 = a) : p = (a, p.2) := by subst h; rfl
theorem m_c2 (N : Nat) (xs : Nat → Int32) : m_run m_tab N xs 3000 100 me192 0 [some (.ref 88)] [] (SH.take 88 ++ [.inr (12, m_df 12)], mz m_H1.2.1 88, mzL m_H1.2.2 88) = some (none, (SH, s0)) := by
  have h1 := m_in2_eq N xs
  have h2 := m_out_eq m_in2_ok
  rw [h2] at h1
  have h3 : m_out (m_in2 0 (fun _ => 0)) = (SH, s0) := by
    unfold s0
    exact m_pe m_in2_sh
  rw [h3] at h1
  have h4 : m_H2 = (SH.take 88 ++ [.inr (12, m_df 12)], mz m_H1.2.1 88, mzL m_H1.2.2 88) := by
    unfold m_H2
    rw [show m_H1.1 = SH.take 88 from m_in1_sh]
  rw [← h4]
  exact h1
theorem m_sh88 : (SH.take 88).length = 88 := by decide +kernel
theorem m_new2 {N : Nat} {xs : Nat → Int32} {i pc : Nat} {ls : List (Option Value)} {g : mG} {a b c : Int} : m_op N xs (.new i) [12, a, b, c] pc ls [] (SH.take 88, g) = some (pc + 3, ls, [.ref 88], (SH.take 88 ++ [.inr (12, m_df 12)], mz g.1 88, mzL g.2 88)) := by
  have hl := m_sh88
  generalize SH.take 88 = S at hl ⊢
  simp [m_op, m_op1, m_op2, m_op3, hl]
theorem m_law_run {L : Nat} {xs : Nat → Int32} {s' : mG} (hF : F_law L xs s0 = some (1, s')) : ∃ n, m_run m_tab L xs n 300 meL 0 [some (.ref 1000000), none, none, none] [] ([], fun _ _ => 0, fun _ _ => 0) = some (some (.int 1), (SH, s')) := by
  have c1 : Rn L xs (100 + 199) me139 0 [some (.ref 0)] [] m_H0 (none, (SH.take 88, m_H1.2)) := Rn_dep 199 ⟨3000, m_c1 L xs⟩
  have c2 : Rn L xs (100 + 199) me192 0 [some (.ref 88)] [] (SH.take 88 ++ [.inr (12, m_df 12)], mz m_H1.2.1 88, mzL m_H1.2.2 88) (none, (SH, s0)) := Rn_dep 199 ⟨3000, m_c2 L xs⟩
  have c3 : Rn L xs (168 + 132) meL 16 [some (.ref 1000000), some (.ref 0), some (.ref 88), none] [] (SH, s0) (some (.int 1), (SH, s')) := k_law L xs 168 rfl rfl hF
  show Rn L xs (299 + 1) meL 0 [some (.ref 1000000), none, none, none] [] ([], fun _ _ => 0, fun _ _ => 0) (some (.int 1), (SH, s'))
  refine Rn_ev srtL 0 rfl rfl rfl (show _ = some (3, [some (.ref 1000000), none, none, none], [.ref 0], m_H0) from rfl) ?_
  refine Rn_sq srtL 1 1 (pc' := 4) (ls' := [some (.ref 1000000), none, none, none]) (st' := [.ref 0, .ref 0]) (h1 := m_H0) rfl ?_
  refine Rn_call srtL 2 rfl rfl rfl ⟨Nat.le_of_ble_eq_true rfl, Nat.le_of_ble_eq_true rfl, rfl, Nat.le_of_ble_eq_true rfl⟩ c1 (show Rn L xs (299 + 1) meL 7 [some (.ref 1000000), none, none, none] [.ref 0] (SH.take 88, m_H1.2) (some (.int 1), (SH, s')) from ?_)
  refine Rn_sq srtL 3 1 (pc' := 8) (ls' := [some (.ref 1000000), some (.ref 0), none, none]) (st' := []) (h1 := (SH.take 88, m_H1.2)) rfl ?_
  refine Rn_ev srtL 4 rfl rfl rfl m_new2 ?_
  refine Rn_sq srtL 5 1 (pc' := 12) (ls' := [some (.ref 1000000), some (.ref 0), none, none]) (st' := [.ref 88, .ref 88]) (h1 := (SH.take 88 ++ [.inr (12, m_df 12)], mz m_H1.2.1 88, mzL m_H1.2.2 88)) rfl ?_
  refine Rn_call srtL 6 rfl rfl rfl ⟨Nat.le_of_ble_eq_true rfl, Nat.le_of_ble_eq_true rfl, rfl, Nat.le_of_ble_eq_true rfl⟩ c2 (show Rn L xs (299 + 1) meL 15 [some (.ref 1000000), some (.ref 0), none, none] [.ref 88] (SH, s0) (some (.int 1), (SH, s')) from ?_)
  refine Rn_sq srtL 7 1 (pc' := 16) (ls' := [some (.ref 1000000), some (.ref 0), some (.ref 88), none]) (st' := []) (h1 := (SH, s0)) rfl ?_
  exact c3
theorem m_sh_len : SH.length ≤ 600000 := by decide +kernel
theorem m_sh_sl : m_sl SH ≤ 7302249 := by decide +kernel
