theorem okG120 : ((m_tab.drop 120).take 19).all m_chkB = true := by decide +kernel
theorem okG139 : ((m_tab.drop 139).take 19).all m_chkB = true := by decide +kernel
theorem okG158 : ((m_tab.drop 158).take 22).all m_chkB = true := by decide +kernel
