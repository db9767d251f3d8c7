/-! THE WHOLE RUN OF THE LAW, from nothing -/
def m_H1 : mH := m_out (m_in1 0 (fun _ => 0))
def m_H2 : mH := (m_H1.1 ++ [.inr (12, m_df 12)], mz m_H1.2.1 88, mzL m_H1.2.2 88)
def m_in2 (N : Nat) (xs : Nat → Int32) : Option (Option Value × mH) := m_run m_tab N xs 3000 100 me192 0 [some (.ref 88)] [] m_H2
theorem m_in2_ok : m_isNone (m_in2 0 (fun _ => 0)) = true := by decide +kernel
theorem m_in2_sh : (m_out (m_in2 0 (fun _ => 0))).1 = SH := by decide +kernel
/-- the ints and longs when both objects are made -/
def s0 : mG := (m_out (m_in2 0 (fun _ => 0))).2
set_option maxRecDepth 100000 in
set_option maxHeartbeats 8000000 in
theorem m_in2_eq (N : Nat) (xs : Nat → Int32) : m_in2 N xs = m_in2 0 (fun _ => 0) := rfl
