/-! the classes' rows in the tables -/
def mk_lw (q : Cond × Nat) : Bool := decide (mk_nth mk_ix q.2 = some q.1) && goodWord q.1
def mk_lay (q : vw_C × List Nat) : Bool := ((u_ws q.1.1 q.1.2.1 q.1.2.2).zip q.2).all mk_lw && decide ((u_ws q.1.1 q.1.2.1 q.1.2.2).length ≤ q.2.length)
theorem mk_lay_all : (m_cl.zip mk_layp).all mk_lay = true := by decide +kernel
theorem m_lay0 : ∀ q ∈ m_cl, ∀ w ∈ u_ws q.1 q.2.1 q.2.2, w ∈ lw_tbl ∧ goodWord w = true := fun q hq w hw => by
  obtain ⟨ps, h⟩ := mk_zip m_cl mk_layp mk_lay_all (by decide +kernel) q hq
  unfold mk_lay at h
  simp only [Bool.and_eq_true, decide_eq_true_eq] at h
  obtain ⟨p, h2⟩ := mk_zip _ ps h.1 h.2 w hw
  simp only [mk_lw, Bool.and_eq_true, decide_eq_true_eq] at h2
  exact ⟨List.mem_of_getElem? (mk_nth_ok h2.1), h2.2⟩
theorem m_clty : ∀ c, c < 13 → match m_cl[c]? with
    | some q => (∀ k, k < q.2.2 → parseFieldDescriptor (q.2.1 k).2.2.1 = some (m_ty c k)) ∧ (∀ a, a < q.2.2 → ∀ b, b < q.2.2 → a ≠ b → (q.2.1 a).2.1 ≠ (q.2.1 b).2.1)
    | none => True := by
  intro c hc
  match c, hc with
  | 0, _ => exact ⟨tyX0_ok, nmX0⟩
  | 1, _ => exact ⟨tyX1_ok, nmX1⟩
  | 2, _ => exact ⟨tyX2_ok, nmX2⟩
  | 3, _ => exact ⟨tyX3_ok, nmX3⟩
  | 4, _ => exact ⟨tyX4_ok, nmX4⟩
  | 5, _ => exact ⟨tyX5_ok, nmX5⟩
  | 6, _ => exact ⟨tyX6_ok, nmX6⟩
  | 7, _ => exact ⟨tyX7_ok, nmX7⟩
  | 8, _ => exact ⟨tyX8_ok, nmX8⟩
  | 9, _ => exact ⟨tyX9_ok, nmX9⟩
  | 10, _ => exact ⟨tyX10_ok, nmX10⟩
  | 11, _ => exact ⟨tyX11_ok, nmX11⟩
  | 12, _ => exact ⟨tyX12_ok, nmX12⟩
  | c + 13, h => exact absurd h (by omega)
theorem m_clok {c : Nat} {C : String} {T : u_T} {n : Nat} (h : m_cl[c]? = some (C, T, n)) : (∀ w ∈ u_ws C T n, w ∈ lw_tbl ∧ goodWord w = true) ∧ (∀ k, k < n → parseFieldDescriptor (T k).2.2.1 = some (m_ty c k)) ∧ (∀ a, a < n → ∀ b, b < n → a ≠ b → (T a).2.1 ≠ (T b).2.1) := by
  have hc : c < 13 := (List.getElem?_eq_some_iff.mp h).1
  have h2 := m_clty c hc
  rw [h] at h2
  exact ⟨m_lay0 _ (List.mem_of_getElem? h), h2.1, h2.2⟩
/-- what a new object holds: nothing yet -/
theorem m_dfok : ∀ c, c < 13 → match m_cl[c]? with
    | some q => (m_df c).length = q.2.2 ∧ ∀ j, j < q.2.2 → (m_df c)[j]? = some (defaultValue (m_ty c j))
    | none => True := by
  intro c hc
  match c, hc with
  | 0, _ => exact ⟨by decide +kernel, by decide +kernel⟩
  | 1, _ => exact ⟨by decide +kernel, by decide +kernel⟩
  | 2, _ => exact ⟨by decide +kernel, by decide +kernel⟩
  | 3, _ => exact ⟨by decide +kernel, by decide +kernel⟩
  | 4, _ => exact ⟨by decide +kernel, by decide +kernel⟩
  | 5, _ => exact ⟨by decide +kernel, by decide +kernel⟩
  | 6, _ => exact ⟨by decide +kernel, by decide +kernel⟩
  | 7, _ => exact ⟨by decide +kernel, by decide +kernel⟩
  | 8, _ => exact ⟨by decide +kernel, by decide +kernel⟩
  | 9, _ => exact ⟨by decide +kernel, by decide +kernel⟩
  | 10, _ => exact ⟨by decide +kernel, by decide +kernel⟩
  | 11, _ => exact ⟨by decide +kernel, by decide +kernel⟩
  | 12, _ => exact ⟨by decide +kernel, by decide +kernel⟩
  | c + 13, h => exact absurd h (by omega)
