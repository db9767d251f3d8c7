/-! BOTH OBJECTS MADE -/
def m_H0 : mH := ([.inr (11, m_df 11)], mz (fun _ _ => 0) 0, mzL (fun _ _ => 0) 0)
def m_out (o : Option (Option Value × mH)) : mH := match o with
  | some (_, h) => h
  | none => ([], fun _ _ => 0, fun _ _ => 0)
def m_isNone (o : Option (Option Value × mH)) : Bool := match o with
  | some (none, _) => true
  | _ => false
theorem m_out_eq {o : Option (Option Value × mH)} (h : m_isNone o = true) : o = some (none, m_out o) := by
  match o, h with
  | some (none, _), _ => rfl
def m_in1 (N : Nat) (xs : Nat → Int32) : Option (Option Value × mH) := m_run m_tab N xs 3000 100 me139 0 [some (.ref 0)] [] m_H0
theorem m_in1_ok : m_isNone (m_in1 0 (fun _ => 0)) = true := by decide +kernel
theorem m_in1_sh : (m_out (m_in1 0 (fun _ => 0))).1 = SH.take 88 := by decide +kernel
