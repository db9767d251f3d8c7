theorem m_ac {p : mM → Bool} {a : mM} {r : List mM} (h1 : p a = true) (h2 : r.all p = true) : (a :: r).all p = true := by rw [List.all_cons, h1, h2]; rfl
theorem okCLd : u_chk code mcL 0 code.data.toList = true := by decide +kernel
theorem okCL0 : ((mcL.drop 0).take 48).all (m_chkI meL) = true := by decide +kernel
theorem okCL1 : ((mcL.drop 48).take 48).all (m_chkI meL) = true := by decide +kernel
theorem okCL2 : ((mcL.drop 96).take 48).all (m_chkI meL) = true := by decide +kernel
theorem okCL3 : ((mcL.drop 144).take 48).all (m_chkI meL) = true := by decide +kernel
theorem okCL4 : ((mcL.drop 192).take 48).all (m_chkI meL) = true := by decide +kernel
theorem okCL5 : ((mcL.drop 240).take 48).all (m_chkI meL) = true := by decide +kernel
theorem okCL6 : ((mcL.drop 288).take 48).all (m_chkI meL) = true := by decide +kernel
theorem okCL7 : ((mcL.drop 336).take 48).all (m_chkI meL) = true := by decide +kernel
theorem okCL8 : ((mcL.drop 384).take 48).all (m_chkI meL) = true := by decide +kernel
theorem okCL9 : ((mcL.drop 432).take 48).all (m_chkI meL) = true := by decide +kernel
theorem okCL10 : ((mcL.drop 480).take 48).all (m_chkI meL) = true := by decide +kernel
theorem okCL11 : ((mcL.drop 528).take 48).all (m_chkI meL) = true := by decide +kernel
theorem okCL12 : ((mcL.drop 576).take 48).all (m_chkI meL) = true := by decide +kernel
theorem okCL13 : ((mcL.drop 624).take 48).all (m_chkI meL) = true := by decide +kernel
theorem okCL14 : ((mcL.drop 672).take 48).all (m_chkI meL) = true := by decide +kernel
theorem okCL15 : ((mcL.drop 720).take 48).all (m_chkI meL) = true := by decide +kernel
theorem okCL16 : ((mcL.drop 768).take 48).all (m_chkI meL) = true := by decide +kernel
theorem okCL17 : ((mcL.drop 816).take 48).all (m_chkI meL) = true := by decide +kernel
theorem okCL18 : ((mcL.drop 864).take 48).all (m_chkI meL) = true := by decide +kernel
theorem okCL19 : ((mcL.drop 912).take 48).all (m_chkI meL) = true := by decide +kernel
theorem okCL20 : ((mcL.drop 960).take 48).all (m_chkI meL) = true := by decide +kernel
theorem okCL21 : ((mcL.drop 1008).take 48).all (m_chkI meL) = true := by decide +kernel
theorem okCL22 : ((mcL.drop 1056).take 48).all (m_chkI meL) = true := by decide +kernel
theorem m_alls {α : Type} {p : α → Bool} {l : List α} {b : Nat} : ∀ (k n : Nat), ((l.drop n).take b).all p = true → (l.drop (n + b)).all p = true → (l.drop n).all p = true := by
  intro k n h1 h2
  rw [← List.take_append_drop b (l.drop n), List.all_append, h1, List.drop_drop, h2]
  rfl
set_option maxRecDepth 100000 in
theorem okCL : m_chkC meL = true := (show (u_chk code mcL 0 code.data.toList && (mcL.drop 0).all (m_chkI meL)) = true from by rw [okCLd, Bool.true_and]; exact (m_alls 0 0 okCL0 (m_alls 0 48 okCL1 (m_alls 0 96 okCL2 (m_alls 0 144 okCL3 (m_alls 0 192 okCL4 (m_alls 0 240 okCL5 (m_alls 0 288 okCL6 (m_alls 0 336 okCL7 (m_alls 0 384 okCL8 (m_alls 0 432 okCL9 (m_alls 0 480 okCL10 (m_alls 0 528 okCL11 (m_alls 0 576 okCL12 (m_alls 0 624 okCL13 (m_alls 0 672 okCL14 (m_alls 0 720 okCL15 (m_alls 0 768 okCL16 (m_alls 0 816 okCL17 (m_alls 0 864 okCL18 (m_alls 0 912 okCL19 (m_alls 0 960 okCL20 (m_alls 0 1008 okCL21 (m_alls 0 1056 okCL22 rfl))))))))))))))))))))))))
set_option maxRecDepth 100000 in
theorem m_tabB : m_tab.all m_chkB = true := (show (m_tab.drop 0).all m_chkB = true from (m_alls 0 0 okG0 (m_alls 0 21 okG21 (m_alls 0 38 okG38 (m_alls 0 60 okG60 (m_alls 0 83 okG83 (m_alls 0 102 okG102 (m_alls 0 120 okG120 (m_alls 0 139 okG139 (m_alls 0 158 okG158 (m_alls 0 180 okG180 (m_alls 0 210 okG210 (m_alls 0 226 okG226 (m_alls 0 239 okG239 (m_alls 0 240 okG240 (m_alls 0 255 okG255 (m_alls 0 271 okG271 (m_alls 0 284 okG284 (m_alls 0 300 okG300 (m_alls 0 310 okG310 rfl))))))))))))))))))))
theorem m_tab_ok : m_okT m_tab := fun y hy => by
  have h : (m_chkH y && m_chkC y) = true := List.all_eq_true.mp m_tabB y hy
  rw [Bool.and_eq_true] at h
  exact ⟨m_chkH_ok h.1, m_chkC_ok h.2⟩
theorem m_law_ok : m_okC m_tab meL := m_chkC_ok okCL
