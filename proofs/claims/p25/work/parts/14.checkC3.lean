theorem okG180 : ((m_tab.drop 180).take 14).all m_chkB = true := by decide +kernel
theorem okG194 : ((m_tab.drop 194).take 12).all m_chkB = true := by decide +kernel
theorem okG206 : ((m_tab.drop 206).take 9).all m_chkB = true := by decide +kernel
theorem okG215 : ((m_tab.drop 215).take 6).all m_chkB = true := by decide +kernel
theorem okG221 : ((m_tab.drop 221).take 5).all m_chkB = true := by decide +kernel
theorem okG226 : ((m_tab.drop 226).take 6).all m_chkB = true := by decide +kernel
theorem okG232 : ((m_tab.drop 232).take 5).all m_chkB = true := by decide +kernel
theorem okG237 : ((m_tab.drop 237).take 3).all m_chkB = true := by decide +kernel
