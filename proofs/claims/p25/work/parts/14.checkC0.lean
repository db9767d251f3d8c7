theorem okG0 : ((m_tab.drop 0).take 9).all m_chkB = true := by decide +kernel
theorem okG9 : ((m_tab.drop 9).take 9).all m_chkB = true := by decide +kernel
theorem okG18 : ((m_tab.drop 18).take 7).all m_chkB = true := by decide +kernel
theorem okG25 : ((m_tab.drop 25).take 8).all m_chkB = true := by decide +kernel
theorem okG33 : ((m_tab.drop 33).take 6).all m_chkB = true := by decide +kernel
theorem okG39 : ((m_tab.drop 39).take 14).all m_chkB = true := by decide +kernel
theorem okG53 : ((m_tab.drop 53).take 6).all m_chkB = true := by decide +kernel
theorem okG59 : ((m_tab.drop 59).take 1).all m_chkB = true := by decide +kernel
