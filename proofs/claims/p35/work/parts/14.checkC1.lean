theorem okG60 : ((m_tab.drop 60).take 23).all m_chkB = true := by decide +kernel
theorem okG83 : ((m_tab.drop 83).take 19).all m_chkB = true := by decide +kernel
theorem okG102 : ((m_tab.drop 102).take 18).all m_chkB = true := by decide +kernel
