theorem m_ac {p : mM → Bool} {a : mM} {r : List mM} (h1 : p a = true) (h2 : r.all p = true) : (a :: r).all p = true := by rw [List.all_cons, h1, h2]; rfl
theorem okCLd : u_chk code mcL 0 code.data.toList = true := by decide +kernel
theorem okCL0 : ((mcL.drop 0).take 48).all (m_chkI meL) = true := by decide +kernel
theorem okCL1 : ((mcL.drop 48).take 48).all (m_chkI meL) = true := by decide +kernel
theorem okCL2 : ((mcL.drop 96).take 48).all (m_chkI meL) = true := by decide +kernel
theorem okCL3 : ((mcL.drop 144).take 48).all (m_chkI meL) = true := by decide +kernel
theorem okCL4 : ((mcL.drop 192).take 48).all (m_chkI meL) = true := by decide +kernel
theorem okCL5 : ((mcL.drop 240).take 48).all (m_chkI meL) = true := by decide +kernel
theorem okCL6 : ((mcL.drop 288).take 48).all (m_chkI meL) = true := by decide +kernel
theorem okCL7 : ((mcL.drop 336).take 48).all (m_chkI meL) = true := by decide +kernel
theorem okCL8 : ((mcL.drop 384).take 48).all (m_chkI meL) = true := by decide +kernel
theorem okCL9 : ((mcL.drop 432).take 48).all (m_chkI meL) = true := by decide +kernel
theorem okCL10 : ((mcL.drop 480).take 48).all (m_chkI meL) = true := by decide +kernel
theorem okCL11 : ((mcL.drop 528).take 48).all (m_chkI meL) = true := by decide +kernel
theorem okCL12 : ((mcL.drop 576).take 48).all (m_chkI meL) = true := by decide +kernel
theorem okCL13 : ((mcL.drop 624).take 48).all (m_chkI meL) = true := by decide +kernel
theorem okCL14 : ((mcL.drop 672).take 48).all (m_chkI meL) = true := by decide +kernel
theorem okCL15 : ((mcL.drop 720).take 48).all (m_chkI meL) = true := by decide +kernel
theorem okCL16 : ((mcL.drop 768).take 48).all (m_chkI meL) = true := by decide +kernel
theorem okCL17 : ((mcL.drop 816).take 48).all (m_chkI meL) = true := by decide +kernel
theorem okCL18 : ((mcL.drop 864).take 48).all (m_chkI meL) = true := by decide +kernel
theorem okCL19 : ((mcL.drop 912).take 48).all (m_chkI meL) = true := by decide +kernel
theorem okCL20 : ((mcL.drop 960).take 48).all (m_chkI meL) = true := by decide +kernel
theorem okCL21 : ((mcL.drop 1008).take 48).all (m_chkI meL) = true := by decide +kernel
theorem okCL22 : ((mcL.drop 1056).take 48).all (m_chkI meL) = true := by decide +kernel
theorem m_alls {α : Type} {p : α → Bool} {l : List α} {b : Nat} : ∀ (k n : Nat), ((l.drop n).take b).all p = true → (l.drop (n + b)).all p = true → (l.drop n).all p = true := by
  intro k n h1 h2
  rw [← List.take_append_drop b (l.drop n), List.all_append, h1, List.drop_drop, h2]
  rfl
set_option maxRecDepth 100000 in
theorem okCL : m_chkC meL = true := (show (u_chk code mcL 0 code.data.toList && (mcL.drop 0).all (m_chkI meL)) = true from by rw [okCLd, Bool.true_and]; exact (m_alls 0 0 okCL0 (m_alls 0 48 okCL1 (m_alls 0 96 okCL2 (m_alls 0 144 okCL3 (m_alls 0 192 okCL4 (m_alls 0 240 okCL5 (m_alls 0 288 okCL6 (m_alls 0 336 okCL7 (m_alls 0 384 okCL8 (m_alls 0 432 okCL9 (m_alls 0 480 okCL10 (m_alls 0 528 okCL11 (m_alls 0 576 okCL12 (m_alls 0 624 okCL13 (m_alls 0 672 okCL14 (m_alls 0 720 okCL15 (m_alls 0 768 okCL16 (m_alls 0 816 okCL17 (m_alls 0 864 okCL18 (m_alls 0 912 okCL19 (m_alls 0 960 okCL20 (m_alls 0 1008 okCL21 (m_alls 0 1056 okCL22 rfl))))))))))))))))))))))))
set_option maxRecDepth 100000 in
theorem m_tabB : m_tab.all m_chkB = true := (show (m_tab.drop 0).all m_chkB = true from (m_alls 0 0 okG0 (m_alls 0 5 okG5 (m_alls 0 10 okG10 (m_alls 0 14 okG14 (m_alls 0 18 okG18 (m_alls 0 22 okG22 (m_alls 0 25 okG25 (m_alls 0 30 okG30 (m_alls 0 33 okG33 (m_alls 0 37 okG37 (m_alls 0 39 okG39 (m_alls 0 48 okG48 (m_alls 0 53 okG53 (m_alls 0 57 okG57 (m_alls 0 58 okG58 (m_alls 0 60 okG60 (m_alls 0 67 okG67 (m_alls 0 72 okG72 (m_alls 0 75 okG75 (m_alls 0 78 okG78 (m_alls 0 82 okG82 (m_alls 0 86 okG86 (m_alls 0 91 okG91 (m_alls 0 96 okG96 (m_alls 0 99 okG99 (m_alls 0 103 okG103 (m_alls 0 109 okG109 (m_alls 0 114 okG114 (m_alls 0 117 okG117 (m_alls 0 120 okG120 (m_alls 0 124 okG124 (m_alls 0 128 okG128 (m_alls 0 130 okG130 (m_alls 0 137 okG137 (m_alls 0 142 okG142 (m_alls 0 146 okG146 (m_alls 0 150 okG150 (m_alls 0 154 okG154 (m_alls 0 159 okG159 (m_alls 0 166 okG166 (m_alls 0 173 okG173 (m_alls 0 180 okG180 (m_alls 0 187 okG187 (m_alls 0 192 okG192 (m_alls 0 201 okG201 (m_alls 0 203 okG203 (m_alls 0 209 okG209 (m_alls 0 213 okG213 (m_alls 0 215 okG215 (m_alls 0 216 okG216 (m_alls 0 222 okG222 (m_alls 0 225 okG225 (m_alls 0 226 okG226 (m_alls 0 230 okG230 (m_alls 0 233 okG233 (m_alls 0 235 okG235 (m_alls 0 239 okG239 (m_alls 0 240 okG240 (m_alls 0 243 okG243 (m_alls 0 245 okG245 (m_alls 0 248 okG248 (m_alls 0 251 okG251 (m_alls 0 253 okG253 (m_alls 0 257 okG257 (m_alls 0 262 okG262 (m_alls 0 267 okG267 (m_alls 0 269 okG269 (m_alls 0 270 okG270 (m_alls 0 272 okG272 (m_alls 0 275 okG275 (m_alls 0 278 okG278 (m_alls 0 280 okG280 (m_alls 0 283 okG283 (m_alls 0 286 okG286 (m_alls 0 289 okG289 (m_alls 0 291 okG291 (m_alls 0 294 okG294 (m_alls 0 297 okG297 (m_alls 0 300 okG300 (m_alls 0 302 okG302 (m_alls 0 303 okG303 (m_alls 0 305 okG305 (m_alls 0 306 okG306 (m_alls 0 309 okG309 (m_alls 0 312 okG312 (m_alls 0 316 okG316 (m_alls 0 319 okG319 (m_alls 0 326 okG326 rfl)))))))))))))))))))))))))))))))))))))))))))))))))))))))))))))))))))))))))))))))))))))))))
theorem m_tab_ok : m_okT m_tab := fun y hy => by
  have h : (m_chkH y && m_chkC y) = true := List.all_eq_true.mp m_tabB y hy
  rw [Bool.and_eq_true] at h
  exact ⟨m_chkH_ok h.1, m_chkC_ok h.2⟩
theorem m_law_ok : m_okC m_tab meL := m_chkC_ok okCL
