noncomputable section
/-! THE IMAGE: what both answer, and the mark that one stands -/
theorem kv0 {i k : Nat} {s : mG} : KV i k (s.1 i k) s := rfl
theorem ok_k {α : Type} {o : Option α} {P K Q : α → Prop} (h : ok o P) (k : pk o K) (m : ∀ a, P a → K a → Q a) : ok o Q := by
  obtain ⟨a, h1, h2⟩ := h
  exact ⟨a, h1, m a h2 (k a h1)⟩
def imv (a l : Int32) : Int32 := if a = 0 then (if l = 0 then ci 0 else ci 1) else ci 1
def imk (a l : Int32) : Int32 := if a = 0 then (if l = 0 then l else ci 1) else ci 1
theorem K_X11_image {a1 : Int32} {s : mG} (hb : PB (s.1 0 2)) : pk (F_X11_image a1 s) (fun τ => τ.1 = imv a1 (s.1 0 2) ∧ τ.2.1 0 2 = imk a1 (s.1 0 2)) := by
  unfold F_X11_image imv imk
  by_cases h1 : a1 = 0
  · rw [if_pos h1, if_pos h1, if_pos h1]
    by_cases h2 : s.1 0 2 = 0
    · rw [if_pos h2, if_pos h2, if_pos h2]
      exact pk_some ⟨rfl, rfl⟩
    · rw [if_neg h2, if_neg h2, if_neg h2]
      have e : s.1 0 2 = ci 1 := hb.resolve_left h2
      refine pk_b1 (K_X2_copyFrom kv0) (fun s1 (q1 : KV 0 2 (s.1 0 2) s1) => ?_)
      refine pk_b1 (K_X5_forget q1) (fun s2 (q2 : KV 0 2 (s.1 0 2) s2) => ?_)
      exact pk_some ⟨rfl, (show s2.1 0 2 = s.1 0 2 from q2).trans e⟩
  · rw [if_neg h1, if_neg h1, if_neg h1]
    refine pk_b1 (K_X2_copyFrom kv0) (fun s1 (q1 : KV 0 2 (s.1 0 2) s1) => ?_)
    exact pk_some ⟨rfl, mu_sameP⟩
theorem K_X12_image_67 {s : mG} : pk (F_X12_image_67 s) (fun τ => τ.1 = ci 1 ∧ τ.2.1 88 4 = ci 1) := by
  unfold F_X12_image_67
  exact pk_some ⟨rfl, mu_sameP⟩
theorem K_X12_image_B15 {x1 x2 : Int32} {s : mG} : pk (F_X12_image_B15 x1 x2 s) (se (fun _ => True) (fun τ => τ.1 = ci 1 ∧ τ.2.1 88 4 = ci 1)) := by
  unfold F_X12_image_B15 F_X12_image_53
  refine pk_ite ?_ ?_
  · refine pk_ite ?_ ?_
    · exact pk_b1 pk_top (fun _ _ => pk_b1r K_X12_image_67)
    · exact pk_b1r K_X12_image_67
  · refine pk_ite ?_ ?_
    · exact pk_nn (pk_nn (pk_some trivial))
    · exact pk_nn (pk_nn (pk_some trivial))
theorem K_X12_image_13 {a1 : Int32} {s : mG} : pk (F_X12_image_13 a1 s) (fun τ => τ.1 = ci 1 ∧ τ.2.1 88 4 = ci 1) := by
  unfold F_X12_image_13 F_X12_image_L15
  exact pk_whl (fun _ => True) trivial (fun _ _ => K_X12_image_B15)
theorem K_X12_image {a1 : Int32} {s : mG} : pk (F_X12_image a1 s) (fun τ => τ.1 = imv a1 (s.1 88 4) ∧ τ.2.1 88 4 = imk a1 (s.1 88 4)) := by
  unfold F_X12_image imv imk
  by_cases h1 : a1 = 0
  · rw [if_pos h1, if_pos h1, if_pos h1]
    by_cases h2 : s.1 88 4 = 0
    · rw [if_pos h2, if_pos h2, if_pos h2]
      exact pk_some ⟨rfl, rfl⟩
    · rw [if_neg h2, if_neg h2, if_neg h2]
      exact K_X12_image_13
  · rw [if_neg h1, if_neg h1, if_neg h1]
    exact K_X12_image_13
theorem imk_pb {a l : Int32} (h : PB l) : PB (imk a l) := by
  unfold imk
  by_cases h1 : a = 0
  · rw [if_pos h1]
    by_cases h2 : l = 0
    · rw [if_pos h2]; exact h
    · rw [if_neg h2]; exact pb1
  · rw [if_neg h1]; exact pb1
end
