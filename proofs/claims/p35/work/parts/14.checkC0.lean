theorem okG0 : ((m_tab.drop 0).take 21).all m_chkB = true := by decide +kernel
theorem okG21 : ((m_tab.drop 21).take 17).all m_chkB = true := by decide +kernel
theorem okG38 : ((m_tab.drop 38).take 22).all m_chkB = true := by decide +kernel
