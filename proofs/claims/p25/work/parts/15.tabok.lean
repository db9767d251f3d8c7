theorem m_ac {p : mM → Bool} {a : mM} {r : List mM} (h1 : p a = true) (h2 : r.all p = true) : (a :: r).all p = true := by rw [List.all_cons, h1, h2]; rfl
theorem okCLd : u_chk code mcL 0 code.data.toList = true := by decide +kernel
theorem okCL0 : ((mcL.drop 0).take 48).all (m_chkI meL) = true := by decide +kernel
theorem okCL1 : ((mcL.drop 48).take 48).all (m_chkI meL) = true := by decide +kernel
theorem okCL2 : ((mcL.drop 96).take 48).all (m_chkI meL) = true := by decide +kernel
theorem okCL3 : ((mcL.drop 144).take 48).all (m_chkI meL) = true := by decide +kernel
theorem okCL4 : ((mcL.drop 192).take 48).all (m_chkI meL) = true := by decide +kernel
theorem okCL5 : ((mcL.drop 240).take 48).all (m_chkI meL) = true := by decide +kernel
theorem okCL6 : ((mcL.drop 288).take 48).all (m_chkI meL) = true := by decide +kernel
theorem okCL7 : ((mcL.drop 336).take 48).all (m_chkI meL) = true := by decide +kernel
theorem okCL8 : ((mcL.drop 384).take 48).all (m_chkI meL) = true := by decide +kernel
theorem okCL9 : ((mcL.drop 432).take 48).all (m_chkI meL) = true := by decide +kernel
theorem okCL10 : ((mcL.drop 480).take 48).all (m_chkI meL) = true := by decide +kernel
theorem okCL11 : ((mcL.drop 528).take 48).all (m_chkI meL) = true := by decide +kernel
theorem okCL12 : ((mcL.drop 576).take 48).all (m_chkI meL) = true := by decide +kernel
theorem okCL13 : ((mcL.drop 624).take 48).all (m_chkI meL) = true := by decide +kernel
theorem okCL14 : ((mcL.drop 672).take 48).all (m_chkI meL) = true := by decide +kernel
theorem okCL15 : ((mcL.drop 720).take 48).all (m_chkI meL) = true := by decide +kernel
theorem okCL16 : ((mcL.drop 768).take 48).all (m_chkI meL) = true := by decide +kernel
theorem okCL17 : ((mcL.drop 816).take 48).all (m_chkI meL) = true := by decide +kernel
theorem okCL18 : ((mcL.drop 864).take 48).all (m_chkI meL) = true := by decide +kernel
theorem okCL19 : ((mcL.drop 912).take 48).all (m_chkI meL) = true := by decide +kernel
theorem okCL20 : ((mcL.drop 960).take 48).all (m_chkI meL) = true := by decide +kernel
theorem okCL21 : ((mcL.drop 1008).take 48).all (m_chkI meL) = true := by decide +kernel
theorem okCL22 : ((mcL.drop 1056).take 48).all (m_chkI meL) = true := by decide +kernel
theorem m_alls {α : Type} {p : α → Bool} {l : List α} {b : Nat} : ∀ (k n : Nat), ((l.drop n).take b).all p = true → (l.drop (n + b)).all p = true → (l.drop n).all p = true := by
  intro k n h1 h2
  rw [← List.take_append_drop b (l.drop n), List.all_append, h1, List.drop_drop, h2]
  rfl
set_option maxRecDepth 100000 in
theorem okCL : m_chkC meL = true := (show (u_chk code mcL 0 code.data.toList && (mcL.drop 0).all (m_chkI meL)) = true from by rw [okCLd, Bool.true_and]; exact (m_alls 0 0 okCL0 (m_alls 0 48 okCL1 (m_alls 0 96 okCL2 (m_alls 0 144 okCL3 (m_alls 0 192 okCL4 (m_alls 0 240 okCL5 (m_alls 0 288 okCL6 (m_alls 0 336 okCL7 (m_alls 0 384 okCL8 (m_alls 0 432 okCL9 (m_alls 0 480 okCL10 (m_alls 0 528 okCL11 (m_alls 0 576 okCL12 (m_alls 0 624 okCL13 (m_alls 0 672 okCL14 (m_alls 0 720 okCL15 (m_alls 0 768 okCL16 (m_alls 0 816 okCL17 (m_alls 0 864 okCL18 (m_alls 0 912 okCL19 (m_alls 0 960 okCL20 (m_alls 0 1008 okCL21 (m_alls 0 1056 okCL22 rfl))))))))))))))))))))))))
set_option maxRecDepth 100000 in
theorem m_tabB : m_tab.all m_chkB = true := (show (m_tab.drop 0).all m_chkB = true from (m_alls 0 0 okG0 (m_alls 0 9 okG9 (m_alls 0 18 okG18 (m_alls 0 25 okG25 (m_alls 0 33 okG33 (m_alls 0 39 okG39 (m_alls 0 53 okG53 (m_alls 0 59 okG59 (m_alls 0 60 okG60 (m_alls 0 72 okG72 (m_alls 0 79 okG79 (m_alls 0 88 okG88 (m_alls 0 97 okG97 (m_alls 0 106 okG106 (m_alls 0 116 okG116 (m_alls 0 120 okG120 (m_alls 0 128 okG128 (m_alls 0 137 okG137 (m_alls 0 145 okG145 (m_alls 0 152 okG152 (m_alls 0 163 okG163 (m_alls 0 177 okG177 (m_alls 0 180 okG180 (m_alls 0 194 okG194 (m_alls 0 206 okG206 (m_alls 0 215 okG215 (m_alls 0 221 okG221 (m_alls 0 226 okG226 (m_alls 0 232 okG232 (m_alls 0 237 okG237 (m_alls 0 240 okG240 (m_alls 0 247 okG247 (m_alls 0 252 okG252 (m_alls 0 260 okG260 (m_alls 0 268 okG268 (m_alls 0 271 okG271 (m_alls 0 277 okG277 (m_alls 0 281 okG281 (m_alls 0 288 okG288 (m_alls 0 294 okG294 (m_alls 0 300 okG300 (m_alls 0 303 okG303 (m_alls 0 306 okG306 (m_alls 0 312 okG312 (m_alls 0 319 okG319 rfl))))))))))))))))))))))))))))))))))))))))))))))
theorem m_tab_ok : m_okT m_tab := fun y hy => by
  have h : (m_chkH y && m_chkC y) = true := List.all_eq_true.mp m_tabB y hy
  rw [Bool.and_eq_true] at h
  exact ⟨m_chkH_ok h.1, m_chkC_ok h.2⟩
theorem m_law_ok : m_okC m_tab meL := m_chkC_ok okCL
