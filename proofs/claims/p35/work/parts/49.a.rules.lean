/-! the script's own rules -/
theorem sh_L : SH[1000000]? = none := by decide +kernel
section LAWRULES
variable {N LN : Nat} {xs Lx : Nat → Int32} {pc : Nat} {ls : List (Option Value)} {st : List Value} {s : mG} {aux : List Int} {i : Int32}
theorem op_alL (hN : N = LN) : m_op N xs .arraylength aux pc ls (.ref 1000000 :: st) (SH, s) = some (pc + 1, ls, .int (cn LN) :: st, (SH, s)) := by
  have h2 : m_al N (SH, s) 1000000 = some LN := by
    unfold m_al
    rw [show (SH, s).1[1000000]? = none from sh_L]
    simp [hN]
  simp [m_op, m_op1, m_op2, m_op3, h2]
theorem op_iaL (hN : N = LN) (hX : xs = Lx) (hin : ¬ (i < 0 ∨ LN ≤ i.toNatClampNeg)) : m_op N xs .iaload aux pc ls (.int i :: .ref 1000000 :: st) (SH, s) = some (pc + 1, ls, .int (Lx i.toNatClampNeg) :: st, (SH, s)) := by
  have h2 : m_ia N xs (SH, s) 1000000 i = some (Lx i.toNatClampNeg) := by
    unfold m_ia
    rw [show (SH, s).1[1000000]? = none from sh_L]
    subst hN
    subst hX
    simp only [if_true, if_neg hin]
  simp [m_op, m_op1, m_op2, m_op3, h2]
end LAWRULES
