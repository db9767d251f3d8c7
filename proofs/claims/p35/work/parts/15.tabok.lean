theorem m_ac {p : mM → Bool} {a : mM} {r : List mM} (h1 : p a = true) (h2 : r.all p = true) : (a :: r).all p = true := by rw [List.all_cons, h1, h2]; rfl
theorem okCLd : u_chk code mcL 0 code.data.toList = true := by decide +kernel
theorem okCL0 : ((mcL.drop 0).take 192).all (m_chkI meL) = true := by decide +kernel
theorem okCL1 : ((mcL.drop 192).take 192).all (m_chkI meL) = true := by decide +kernel
theorem okCL2 : ((mcL.drop 384).take 192).all (m_chkI meL) = true := by decide +kernel
theorem okCL3 : ((mcL.drop 576).take 192).all (m_chkI meL) = true := by decide +kernel
theorem okCL4 : ((mcL.drop 768).take 192).all (m_chkI meL) = true := by decide +kernel
theorem okCL5 : ((mcL.drop 960).take 192).all (m_chkI meL) = true := by decide +kernel
theorem m_alls {α : Type} {p : α → Bool} {l : List α} {b : Nat} : ∀ (k n : Nat), ((l.drop n).take b).all p = true → (l.drop (n + b)).all p = true → (l.drop n).all p = true := by
  intro k n h1 h2
  rw [← List.take_append_drop b (l.drop n), List.all_append, h1, List.drop_drop, h2]
  rfl
set_option maxRecDepth 100000 in
theorem okCL : m_chkC meL = true := (show (u_chk code mcL 0 code.data.toList && (mcL.drop 0).all (m_chkI meL)) = true from by rw [okCLd, Bool.true_and]; exact (m_alls 0 0 okCL0 (m_alls 0 192 okCL1 (m_alls 0 384 okCL2 (m_alls 0 576 okCL3 (m_alls 0 768 okCL4 (m_alls 0 960 okCL5 rfl)))))))
set_option maxRecDepth 100000 in
theorem m_tabB : m_tab.all m_chkB = true := (show (m_tab.drop 0).all m_chkB = true from (m_alls 0 0 okG0 (m_alls 0 21 okG21 (m_alls 0 38 okG38 (m_alls 0 60 okG60 (m_alls 0 83 okG83 (m_alls 0 102 okG102 (m_alls 0 120 okG120 (m_alls 0 139 okG139 (m_alls 0 158 okG158 (m_alls 0 180 okG180 (m_alls 0 210 okG210 (m_alls 0 226 okG226 (m_alls 0 239 okG239 (m_alls 0 240 okG240 (m_alls 0 255 okG255 (m_alls 0 271 okG271 (m_alls 0 284 okG284 (m_alls 0 300 okG300 (m_alls 0 310 okG310 rfl))))))))))))))))))))
theorem m_tab_ok : m_okT m_tab := fun y hy => by
  have h : (m_chkH y && m_chkC y) = true := List.all_eq_true.mp m_tabB y hy
  rw [Bool.and_eq_true] at h
  exact ⟨m_chkH_ok h.1, m_chkC_ok h.2⟩
theorem m_law_ok : m_okC m_tab meL := m_chkC_ok okCL
