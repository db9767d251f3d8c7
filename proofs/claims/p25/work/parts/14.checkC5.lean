theorem okG300 : ((m_tab.drop 300).take 3).all m_chkB = true := by decide +kernel
theorem okG303 : ((m_tab.drop 303).take 3).all m_chkB = true := by decide +kernel
theorem okG306 : ((m_tab.drop 306).take 6).all m_chkB = true := by decide +kernel
theorem okG312 : ((m_tab.drop 312).take 7).all m_chkB = true := by decide +kernel
theorem okG319 : ((m_tab.drop 319).take 9).all m_chkB = true := by decide +kernel
