noncomputable section
theorem R_hours {a b : mG} {x : Int32} (h : SIM a b) : rel (F_X11_hours x a) (F_X12_hours x b) (fun τ υ => τ.1 = υ.1 ∧ SIM τ.2 υ.2) := by
  have x10 : a.1 1 10 = b.1 89 0 := by
    obtain ⟨⟨_, _, _, _, _, _, _, _, H, _, _⟩, _⟩ := h
    exact H.2.2.2.2.2.2.2.2.2.2.1
  have h0 : 0 ≤ (b.1 89 0).toInt ∧ (b.1 89 0).toInt ≤ 9999 := by
    obtain ⟨⟨_, _, _, _, _, _, _, _, _, _, V⟩, _⟩ := h
    exact ⟨V.1, V.2.1⟩
  unfold F_X11_hours F_X12_hours F_X11_hours_25 F_X12_hours_24
  rw [V_within, F_isIn, b1_some, b1_some, x10]
  by_cases hw : wi x (ci 1) (c8 60) = 0
  · rw [if_pos hw, if_pos hw]; exact rel_some ⟨rfl, h⟩
  rw [if_neg hw, if_neg hw]
  by_cases hl : b.1 89 0 + x ≤ c16 9999
  · rw [if_pos hl, if_pos hl]
    obtain ⟨w1, w2⟩ := wi_f hw
    rw [show (ci 1).toInt = 1 by decide] at w1
    rw [show (c8 60).toInt = 60 by decide] at w2
    have hsum := r_le (r_add rfl rfl (by omega) (by omega)) (by decide : (c16 9999).toInt = 9999) hl
    unfold F_X11_hours_L31 F_X12_hours_L30
    refine rel_whl (fun v w => v.1 = x ∧ w.1 = x ∧ v.2.1 = w.2.1 ∧ ∃ i : Nat, (i : Int) ≤ x.toInt ∧ v.2.2.1 = cn i ∧ w.2.2.1 = cn i ∧ SIM v.2.2.2 w.2.2.2 ∧ (w.2.2.2.1 89 0).toInt = (b.1 89 0).toInt + i) ⟨rfl, rfl, rfl, 0, by omega, rfl, rfl, h, by simp⟩ (fun v w hvw => ?_)
    obtain ⟨x1, x2, x3, s⟩ := v
    obtain ⟨y1, y2, y3, t⟩ := w
    obtain ⟨e1, e2, e3, i, hi, e4, e5, S, e0⟩ := hvw
    have e1 : x = x1 := e1.symm
    have e2 : x = y1 := e2.symm
    have e3 : x2 = y2 := e3
    have e4 : x3 = cn i := e4
    have e5 : y3 = cn i := e5
    have S : SIM s t := S
    have e0 : (t.1 89 0).toInt = (b.1 89 0).toInt + i := e0
    subst e1; subst e2; subst e3; subst e4; subst e5
    unfold F_X11_hours_B31 F_X12_hours_B30
    dsimp only
    have ti : (cn i).toInt = (i : Int) := t_cn (by omega)
    by_cases hle : x ≤ cn i
    · rw [if_pos hle, if_pos hle]
      exact rel_some ⟨rfl, S⟩
    · rw [if_neg hle, if_neg hle]
      have hlt := r_nle rfl ti hle
      refine rel_b1 (R_keep S) (fun u w q => ?_)
      obtain ⟨Sk, lo, hi', rj⟩ := q
      have r89 : w.1 89 = t.1 89 := rj 89 (by decide) (by decide)
      obtain ⟨⟨n, nb, nc, hn, hnb, f2, f4, f8, H, L, V⟩, _⟩ := id Sk
      refine rel_b2 (R_hour H f2 hn f8 L V.2.2) (fun m s' m' t' q => ?_)
      obtain ⟨q1, ⟨q2, q3, q4, q5⟩, q6⟩ := q
      have q1 : m = m' := q1
      have q2 : HSr 1 s'.1 (t'.1 89) := q2
      have q3 : CFh u s' := q3
      have q4 : RFh w t' := q4
      have q5 : ∀ i, i < n → VIg (t'.1 89) i := q5
      have q6 : t'.1 89 0 = w.1 89 0 + ci 1 := q6
      subst q1
      have eh : (t'.1 89 0).toInt = (b.1 89 0).toInt + (i + 1 : Nat) := by
        rw [q6, r89, t_up (by omega), e0]; omega
      refine rel_some (show _ ∧ _ from ⟨rfl, rfl, rfl, i + 1, by omega, cnu (by omega), cnu (by omega), SIM_go Sk q2 q3 q4 (fun n' hn' e' => ?_), eh⟩)
      have en : n' = n := (cn_inj (by omega) (by omega)).mp (e'.symm.trans f2)
      subst en
      exact (show 0 ≤ (t'.1 89 0).toInt ∧ (t'.1 89 0).toInt ≤ 9999 ∧ ∀ g, g < n' → VIg (t'.1 89) g from ⟨by omega, by omega, q5⟩)
  · rw [if_neg hl, if_neg hl]; exact rel_some ⟨rfl, h⟩
end
