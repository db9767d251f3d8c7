theorem okG300 : ((m_tab.drop 300).take 10).all m_chkB = true := by decide +kernel
theorem okG310 : ((m_tab.drop 310).take 18).all m_chkB = true := by decide +kernel
