theorem okG240 : ((m_tab.drop 240).take 15).all m_chkB = true := by decide +kernel
theorem okG255 : ((m_tab.drop 255).take 16).all m_chkB = true := by decide +kernel
theorem okG271 : ((m_tab.drop 271).take 13).all m_chkB = true := by decide +kernel
theorem okG284 : ((m_tab.drop 284).take 16).all m_chkB = true := by decide +kernel
