theorem okG180 : ((m_tab.drop 180).take 30).all m_chkB = true := by decide +kernel
theorem okG210 : ((m_tab.drop 210).take 16).all m_chkB = true := by decide +kernel
theorem okG226 : ((m_tab.drop 226).take 13).all m_chkB = true := by decide +kernel
theorem okG239 : ((m_tab.drop 239).take 1).all m_chkB = true := by decide +kernel
