theorem okG60 : ((m_tab.drop 60).take 12).all m_chkB = true := by decide +kernel
theorem okG72 : ((m_tab.drop 72).take 7).all m_chkB = true := by decide +kernel
theorem okG79 : ((m_tab.drop 79).take 9).all m_chkB = true := by decide +kernel
theorem okG88 : ((m_tab.drop 88).take 9).all m_chkB = true := by decide +kernel
theorem okG97 : ((m_tab.drop 97).take 9).all m_chkB = true := by decide +kernel
theorem okG106 : ((m_tab.drop 106).take 10).all m_chkB = true := by decide +kernel
theorem okG116 : ((m_tab.drop 116).take 4).all m_chkB = true := by decide +kernel
