theorem okG120 : ((m_tab.drop 120).take 8).all m_chkB = true := by decide +kernel
theorem okG128 : ((m_tab.drop 128).take 9).all m_chkB = true := by decide +kernel
theorem okG137 : ((m_tab.drop 137).take 8).all m_chkB = true := by decide +kernel
theorem okG145 : ((m_tab.drop 145).take 7).all m_chkB = true := by decide +kernel
theorem okG152 : ((m_tab.drop 152).take 11).all m_chkB = true := by decide +kernel
theorem okG163 : ((m_tab.drop 163).take 14).all m_chkB = true := by decide +kernel
theorem okG177 : ((m_tab.drop 177).take 3).all m_chkB = true := by decide +kernel
