/-- the check of a row, to be counted out -/
def m_chkI (y : mM) (q : mI) : Bool := m_okI y.2.1.cls y.2.1.name m_tab q.1 q.2.1 q.2.2
def m_chkC (y : mM) : Bool := u_chk y.2.2.1 y.2.2.2.2.2.2.2 0 y.2.2.1.data.toList && y.2.2.2.2.2.2.2.all (m_chkI y)
theorem m_chkC_ok {y : mM} (h : m_chkC y = true) : m_okC m_tab y := fun q hq => by
  unfold m_chkC at h
  rw [Bool.and_eq_true] at h
  exact ⟨u_chk_ok _ 0 _ rfl h.1 q hq, List.all_eq_true.mp h.2 q hq⟩
def m_cw (o : Option Cond) (y : mM) : Bool := match o with
  | some (.code n b k r) => decide (n = y.2.1) && decide (b.data.toList = y.2.2.1.data.toList) && decide (k = y.2.2.2.1) && decide (r = y.2.2.2.2.1)
  | _ => false
theorem m_cw_ba {b c : ByteArray} (h : b.data.toList = c.data.toList) : b = c := by
  cases b with
  | mk d =>
    cases c with
    | mk e =>
      have q : d = e := Array.ext' h
      rw [q]
theorem m_cw_ok {o : Option Cond} {y : mM} (h : m_cw o y = true) : o = some (.code y.2.1 y.2.2.1 y.2.2.2.1 y.2.2.2.2.1) := by
  unfold m_cw at h
  split at h
  · next n b k r =>
    simp only [Bool.and_eq_true, decide_eq_true_eq] at h
    obtain ⟨⟨⟨h1, h2⟩, h3⟩, h4⟩ := h
    rw [h1, m_cw_ba h2, h3, h4]
  · cases h
def m_chkH (y : mM) : Bool := plainName y.2.1.cls && decide (y.2.1.cls ≠ "java/lang/invoke/MethodHandle" ∧ y.2.1.cls ≠ "java/lang/invoke/VarHandle") && decide (y.2.2.2.1 ≤ 60) && (match y.2.2.2.2.2.2.1 with
  | [p1, p2, p3, p4] => m_cw (mk_nth mk_ix p1) y && goodWord (.code y.2.1 y.2.2.1 y.2.2.2.1 y.2.2.2.2.1) && m_w (Int.ofNat p2) (.initialized y.2.1.cls) && (if y.1 = 0 then m_w (Int.ofNat p3) (.static y.2.1) else m_w (Int.ofNat p3) (.instanceMethod y.2.1)) && (if y.1 = 1 then m_w (Int.ofNat p4) (.selects y.2.1.cls y.2.1 y.2.1) else true)
  | _ => false) && (if y.1 = 2 then decide (y.2.1.name = "<init>" ∧ y.2.2.2.2.1 = none) else true) && (if y.1 = 0 then true else (decide (y.2.2.2.2.2.1 = 99 ∧ y.2.1.cls = "java/lang/String") || (match m_cl[y.2.2.2.2.2.1]? with
    | some q => decide (q.1 = y.2.1.cls ∧ y.2.2.2.2.2.1 ≠ 99)
    | none => false)))
theorem m_chkH_ok {y : mM} (h : m_chkH y = true) : m_okH y := by
  unfold m_chkH at h
  simp only [Bool.and_eq_true, decide_eq_true_eq] at h
  obtain ⟨⟨⟨⟨⟨h1, h2⟩, h3⟩, h4⟩, h5⟩, h6⟩ := h
  split at h4
  · next p1 p2 p3 p4 hp =>
    simp only [Bool.and_eq_true, decide_eq_true_eq] at h4
    obtain ⟨⟨⟨⟨g1, g2⟩, g3⟩, g4⟩, g5⟩ := h4
    refine ⟨h1, h2, h3, m_TW_in (mk_nth_ok (m_cw_ok g1)) g2, m_w_in g3, fun k => ?_, fun k => ?_, fun k => ?_, fun k => ?_, fun k => ?_⟩
    · rw [if_pos k] at g4; exact m_w_in g4
    · rw [if_neg k] at g4; exact m_w_in g4
    · rw [if_pos k] at g5; exact m_w_in g5
    · rw [if_pos k] at h5; exact of_decide_eq_true h5
    · rw [if_neg k] at h6
      rcases (Bool.or_eq_true _ _).mp h6 with z | z
      · exact Or.inl (of_decide_eq_true z)
      · right
        split at z
        · next q hq => exact ⟨q, hq, of_decide_eq_true z⟩
        · cases z
  · cases h4

/-- both checks of a row -/
def m_chkB (y : mM) : Bool := m_chkH y && m_chkC y

