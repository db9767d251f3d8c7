/-! THE LAW'S START: what the Statement gives, and the run of the small machine that is left to show -/
def R_law : String := "IsHeInLaw"
def m_fl : List Cond := flatC (Jvm.Cond.and given_1 narrow_1)
def m_tm (k : Nat) : Term := match m_str[k]? with
  | some q => .string q.1 q.2.1
  | none => .string "" 0
def m_fe (k : Nat) : Nat := ([21, 151, 159, 165, 172, 179, 188, 197, 204, 213, 220, 228, 236, 245, 254, 260, 268, 277, 286, 295, 304, 312, 318, 325, 334, 342, 349] : List Nat).getD k 0
theorem m_f1p : ∀ k, k < 27 → m_fl[m_fe k - 4]? = some (Cond.exactly (m_tm k) "java/lang/String") := by decide +kernel
theorem m_f1 : ∀ k, k < 27 → Cond.exactly (m_tm k) "java/lang/String" ∈ m_fl := fun k hk => List.mem_of_getElem? (m_f1p k hk)
theorem m_f2p : ∀ k, k < 27 → m_fl[m_fe k - 3]? = some (Cond.eq (.field (m_tm k) "java/lang/String" "coder" "B") (.int 0)) := by decide +kernel
theorem m_f2 : ∀ k, k < 27 → Cond.eq (.field (m_tm k) "java/lang/String" "coder" "B") (.int 0) ∈ m_fl := fun k hk => List.mem_of_getElem? (m_f2p k hk)
theorem m_f3p : ∀ k, k < 27 → m_fl[m_fe k - 2]? = some (Cond.arrayOf (.field (m_tm k) "java/lang/String" "value" "[B") .byte) := by decide +kernel
theorem m_f3 : ∀ k, k < 27 → Cond.arrayOf (.field (m_tm k) "java/lang/String" "value" "[B") .byte ∈ m_fl := fun k hk => List.mem_of_getElem? (m_f3p k hk)
theorem m_f4p : ∀ k, k < 27 → m_fl[m_fe k - 1]? = some (Cond.eq (.length (.field (m_tm k) "java/lang/String" "value" "[B")) (.int (Int32.ofNat (m_sb.getD k []).length))) := by decide +kernel
theorem m_f4 : ∀ k, k < 27 → Cond.eq (.length (.field (m_tm k) "java/lang/String" "value" "[B")) (.int (Int32.ofNat (m_sb.getD k []).length)) ∈ m_fl := fun k hk => List.mem_of_getElem? (m_f4p k hk)
def m_e5 (k j : Nat) : Cond := .eq (.elem (.field (m_tm k) "java/lang/String" "value" "[B") (.int (Int32.ofNat j))) (.int ((m_sb.getD k []).getD j 0))
theorem m_f5_0_0 : (m_fl.drop 21).take 24 = (List.range' 0 24).map (m_e5 0) := by decide +kernel
theorem m_f5_0_1 : (m_fl.drop 45).take 24 = (List.range' 24 24).map (m_e5 0) := by decide +kernel
theorem m_f5_0_2 : (m_fl.drop 69).take 24 = (List.range' 48 24).map (m_e5 0) := by decide +kernel
theorem m_f5_0_3 : (m_fl.drop 93).take 24 = (List.range' 72 24).map (m_e5 0) := by decide +kernel
theorem m_f5_0_4 : (m_fl.drop 117).take 24 = (List.range' 96 24).map (m_e5 0) := by decide +kernel
theorem m_f5_0_5 : (m_fl.drop 141).take 6 = (List.range' 120 6).map (m_e5 0) := by decide +kernel
theorem m_f5_1_0 : (m_fl.drop 151).take 4 = (List.range' 0 4).map (m_e5 1) := by decide +kernel
theorem m_f5_2_0 : (m_fl.drop 159).take 2 = (List.range' 0 2).map (m_e5 2) := by decide +kernel
theorem m_f5_3_0 : (m_fl.drop 165).take 3 = (List.range' 0 3).map (m_e5 3) := by decide +kernel
theorem m_f5_4_0 : (m_fl.drop 172).take 3 = (List.range' 0 3).map (m_e5 4) := by decide +kernel
theorem m_f5_5_0 : (m_fl.drop 179).take 5 = (List.range' 0 5).map (m_e5 5) := by decide +kernel
theorem m_f5_6_0 : (m_fl.drop 188).take 5 = (List.range' 0 5).map (m_e5 6) := by decide +kernel
theorem m_f5_7_0 : (m_fl.drop 197).take 3 = (List.range' 0 3).map (m_e5 7) := by decide +kernel
theorem m_f5_8_0 : (m_fl.drop 204).take 5 = (List.range' 0 5).map (m_e5 8) := by decide +kernel
theorem m_f5_9_0 : (m_fl.drop 213).take 3 = (List.range' 0 3).map (m_e5 9) := by decide +kernel
theorem m_f5_10_0 : (m_fl.drop 220).take 4 = (List.range' 0 4).map (m_e5 10) := by decide +kernel
theorem m_f5_11_0 : (m_fl.drop 228).take 4 = (List.range' 0 4).map (m_e5 11) := by decide +kernel
theorem m_f5_12_0 : (m_fl.drop 236).take 5 = (List.range' 0 5).map (m_e5 12) := by decide +kernel
theorem m_f5_13_0 : (m_fl.drop 245).take 5 = (List.range' 0 5).map (m_e5 13) := by decide +kernel
theorem m_f5_14_0 : (m_fl.drop 254).take 2 = (List.range' 0 2).map (m_e5 14) := by decide +kernel
theorem m_f5_15_0 : (m_fl.drop 260).take 4 = (List.range' 0 4).map (m_e5 15) := by decide +kernel
theorem m_f5_16_0 : (m_fl.drop 268).take 5 = (List.range' 0 5).map (m_e5 16) := by decide +kernel
theorem m_f5_17_0 : (m_fl.drop 277).take 5 = (List.range' 0 5).map (m_e5 17) := by decide +kernel
theorem m_f5_18_0 : (m_fl.drop 286).take 5 = (List.range' 0 5).map (m_e5 18) := by decide +kernel
theorem m_f5_19_0 : (m_fl.drop 295).take 5 = (List.range' 0 5).map (m_e5 19) := by decide +kernel
theorem m_f5_20_0 : (m_fl.drop 304).take 4 = (List.range' 0 4).map (m_e5 20) := by decide +kernel
theorem m_f5_21_0 : (m_fl.drop 312).take 2 = (List.range' 0 2).map (m_e5 21) := by decide +kernel
theorem m_f5_22_0 : (m_fl.drop 318).take 3 = (List.range' 0 3).map (m_e5 22) := by decide +kernel
theorem m_f5_23_0 : (m_fl.drop 325).take 5 = (List.range' 0 5).map (m_e5 23) := by decide +kernel
theorem m_f5_24_0 : (m_fl.drop 334).take 4 = (List.range' 0 4).map (m_e5 24) := by decide +kernel
theorem m_f5_25_0 : (m_fl.drop 342).take 3 = (List.range' 0 3).map (m_e5 25) := by decide +kernel
theorem m_f5_26_0 : (m_fl.drop 349).take 2 = (List.range' 0 2).map (m_e5 26) := by decide +kernel
theorem m_f5i {p n b k j : Nat} (h : (m_fl.drop p).take n = (List.range' b n).map (m_e5 k)) (h1 : b ≤ j) (h2 : j < b + n) : m_e5 k j ∈ m_fl :=
  List.mem_of_mem_drop (List.mem_of_mem_take (h ▸ List.mem_map_of_mem (List.mem_range'_1.mpr ⟨h1, h2⟩) : m_e5 k j ∈ (m_fl.drop p).take n))
theorem m_f5 : ∀ k, k < 27 → ∀ j, j < (m_sb.getD k []).length → m_e5 k j ∈ m_fl := by
  intro k hk j hj
  match k, hk, hj with
  | 0, _, hj =>
    have hj : j < 126 := hj
    by_cases h0 : j < 24
    · exact m_f5i m_f5_0_0 (by omega) (by omega)
    by_cases h1 : j < 48
    · exact m_f5i m_f5_0_1 (by omega) (by omega)
    by_cases h2 : j < 72
    · exact m_f5i m_f5_0_2 (by omega) (by omega)
    by_cases h3 : j < 96
    · exact m_f5i m_f5_0_3 (by omega) (by omega)
    by_cases h4 : j < 120
    · exact m_f5i m_f5_0_4 (by omega) (by omega)
    exact m_f5i m_f5_0_5 (by omega) (by omega)
  | 1, _, hj => exact m_f5i m_f5_1_0 (Nat.zero_le _) (by have : j < 4 := hj; omega)
  | 2, _, hj => exact m_f5i m_f5_2_0 (Nat.zero_le _) (by have : j < 2 := hj; omega)
  | 3, _, hj => exact m_f5i m_f5_3_0 (Nat.zero_le _) (by have : j < 3 := hj; omega)
  | 4, _, hj => exact m_f5i m_f5_4_0 (Nat.zero_le _) (by have : j < 3 := hj; omega)
  | 5, _, hj => exact m_f5i m_f5_5_0 (Nat.zero_le _) (by have : j < 5 := hj; omega)
  | 6, _, hj => exact m_f5i m_f5_6_0 (Nat.zero_le _) (by have : j < 5 := hj; omega)
  | 7, _, hj => exact m_f5i m_f5_7_0 (Nat.zero_le _) (by have : j < 3 := hj; omega)
  | 8, _, hj => exact m_f5i m_f5_8_0 (Nat.zero_le _) (by have : j < 5 := hj; omega)
  | 9, _, hj => exact m_f5i m_f5_9_0 (Nat.zero_le _) (by have : j < 3 := hj; omega)
  | 10, _, hj => exact m_f5i m_f5_10_0 (Nat.zero_le _) (by have : j < 4 := hj; omega)
  | 11, _, hj => exact m_f5i m_f5_11_0 (Nat.zero_le _) (by have : j < 4 := hj; omega)
  | 12, _, hj => exact m_f5i m_f5_12_0 (Nat.zero_le _) (by have : j < 5 := hj; omega)
  | 13, _, hj => exact m_f5i m_f5_13_0 (Nat.zero_le _) (by have : j < 5 := hj; omega)
  | 14, _, hj => exact m_f5i m_f5_14_0 (Nat.zero_le _) (by have : j < 2 := hj; omega)
  | 15, _, hj => exact m_f5i m_f5_15_0 (Nat.zero_le _) (by have : j < 4 := hj; omega)
  | 16, _, hj => exact m_f5i m_f5_16_0 (Nat.zero_le _) (by have : j < 5 := hj; omega)
  | 17, _, hj => exact m_f5i m_f5_17_0 (Nat.zero_le _) (by have : j < 5 := hj; omega)
  | 18, _, hj => exact m_f5i m_f5_18_0 (Nat.zero_le _) (by have : j < 5 := hj; omega)
  | 19, _, hj => exact m_f5i m_f5_19_0 (Nat.zero_le _) (by have : j < 5 := hj; omega)
  | 20, _, hj => exact m_f5i m_f5_20_0 (Nat.zero_le _) (by have : j < 4 := hj; omega)
  | 21, _, hj => exact m_f5i m_f5_21_0 (Nat.zero_le _) (by have : j < 2 := hj; omega)
  | 22, _, hj => exact m_f5i m_f5_22_0 (Nat.zero_le _) (by have : j < 3 := hj; omega)
  | 23, _, hj => exact m_f5i m_f5_23_0 (Nat.zero_le _) (by have : j < 5 := hj; omega)
  | 24, _, hj => exact m_f5i m_f5_24_0 (Nat.zero_le _) (by have : j < 4 := hj; omega)
  | 25, _, hj => exact m_f5i m_f5_25_0 (Nat.zero_le _) (by have : j < 3 := hj; omega)
  | 26, _, hj => exact m_f5i m_f5_26_0 (Nat.zero_le _) (by have : j < 2 := hj; omega)
  | k + 27, hk, _ => exact absurd hk (by omega)
def mk_f6 (q : (String × Nat × String) × Nat) : Bool := decide (mk_nth mk_ix q.2 = some (Cond.stringRef q.1.1 q.1.2.1 q.1.2.2))
theorem mk_f6_all : (m_str.zip mk_strp).all mk_f6 = true := by decide +kernel
theorem m_f6 : ∀ k, k < 27 → ∀ q, m_str[k]? = some q → Cond.stringRef q.1 q.2.1 q.2.2 ∈ lw_tbl := by
  intro k _ q hq
  obtain ⟨p, h⟩ := mk_zip m_str mk_strp mk_f6_all (by decide +kernel) q (List.mem_of_getElem? hq)
  have h2 : decide (mk_nth mk_ix p = some (Cond.stringRef q.1 q.2.1 q.2.2)) = true := h
  exact List.mem_of_getElem? (mk_nth_ok (of_decide_eq_true h2))
def mk_f7 (q : vw_C × Nat) : Bool := decide (mk_nth mk_ix q.2 = some (Cond.instantiable q.1.1 q.1.2.2))
theorem mk_f7_all : (m_cl.zip mk_inp).all mk_f7 = true := by decide +kernel
theorem m_f7 : ∀ q ∈ m_cl, Cond.instantiable q.1 q.2.2 ∈ lw_tbl := by
  intro q hq
  obtain ⟨p, h⟩ := mk_zip m_cl mk_inp mk_f7_all (by decide +kernel) q hq
  have h2 : decide (mk_nth mk_ix p = some (Cond.instantiable q.1 q.2.2)) = true := h
  exact List.mem_of_getElem? (mk_nth_ok (of_decide_eq_true h2))
def mk_f8 (q : Cond × Nat) : Bool := decide (mk_nth mk_ix q.2 = some q.1)
theorem mk_f8_all : (m_nest.zip mk_nep).all mk_f8 = true := by decide +kernel
theorem m_f8 : ∀ w ∈ m_nest, w ∈ lw_tbl := by
  intro w hw
  obtain ⟨p, h⟩ := mk_zip m_nest mk_nep mk_f8_all (by decide +kernel) w hw
  have h2 : decide (mk_nth mk_ix p = some w) = true := h
  exact List.mem_of_getElem? (mk_nth_ok (of_decide_eq_true h2))
theorem m_f9 : ∀ j, j < 5 → Cond.eq (.elem (.static "IsHeIn" "UNTOLD" "[I") (.int (Int32.ofNat j))) (.int (m_unt.getD j 0)) ∈ m_fl := by decide +kernel
theorem m_len27 : ∀ k, k < 27 → (m_sb.getD k []).length < 2 ^ 31 := by decide +kernel
theorem m_str27 : ∀ k, k < 27 → ∃ q, m_str[k]? = some q ∧ m_tm k = .string q.1 q.2.1 := by
  intro k hk
  have hl : k < m_str.length := by simpa [m_str] using hk
  exact ⟨_, List.getElem?_eq_getElem hl, by simp [m_tm, List.getElem?_eq_getElem hl]⟩
/-- the words stand at the start, so the fixed things do -/
theorem m_Fx_start {s : State} {b L : Nat} {xs : Nat → Int32} {A0 : Array Value} (hts : ∀ w ∈ lw_tbl, w.before A0 s = true) (hgv : (Jvm.Cond.and given_1 narrow_1).before A0 s = true) (hX : va_X b L xs s s.heap) (hbl : b < s.heap.size) :
    ∃ (ad : Nat → Nat) (vF : Value) (dC : Nat → ClassId) (dI : Nat → Nat → Nat) (dA : Nat → Nat), m_Fx ad s.heap.size vF dC dI dA L xs s s.heap ∧ ad 1000000 = b := by
  have hfl : ∀ w ∈ m_fl, w.before A0 s = true := flat_of_before _ hgv
  have hA : ∀ a : Nat, a < s.heap.size → ¬ m_A s.heap.size a := fun a h q => by have : s.heap.size ≤ a := q; omega
  obtain ⟨tU, htU, hT5⟩ := va_Tof (tm := .static "IsHeIn" "UNTOLD" "[I") (ty := .int) (N := 5) (f := fun j => .int (m_unt.getD j 0)) (A := m_A s.heap.size) (by decide) (hfl _ (by decide +kernel)) (va_eqt (hfl _ (by decide +kernel))) (fun j hj => va_eqt (hfl _ (m_f9 j hj))) hA
  have hZ0 := va_Zof (C := "IsHeIn") (n := "UNTOLD") (d := "[I") (A := m_A s.heap.size) (hts _ (by decide +kernel)) (hts _ (by decide +kernel)) htU hA
  have hZ1 := va_Zof (C := "java/lang/String") (n := "COMPACT_STRINGS") (d := "Z") (v := .int 1) (A := m_A s.heap.size) (hts _ (by decide +kernel)) (hts _ (by decide +kernel)) (va_eqi (hfl _ (by decide +kernel))) hA
  obtain ⟨vF, hvF, hvr⟩ := Cond.isRef_spec (args := A0) (first := s) (o := none) (s := s) (idx := []) (hfl (.isRef (.static "jdk/internal/util/Preconditions" "SIOOBE_FORMATTER" "Ljava/util/function/BiFunction;")) (by decide +kernel))
  have hZ2 := va_Zof (C := "jdk/internal/util/Preconditions") (n := "SIOOBE_FORMATTER") (d := "Ljava/util/function/BiFunction;") (A := m_A s.heap.size) (hts _ (by decide +kernel)) (hts _ (by decide +kernel)) hvF hA
  have h0 : ∀ k : Nat, ∃ q : Nat × Nat, k < 27 → (m_tm k).eval A0 s none [] s = some (.ref q.1) ∧ va_O "java/lang/String" q.1 (m_A s.heap.size) s s.heap ∧ va_OF "java/lang/String" "coder" "B" (.int 0) q.1 (m_A s.heap.size) s s.heap ∧ va_OF "java/lang/String" "value" "[B" (.ref q.2) q.1 (m_A s.heap.size) s s.heap ∧ va_T .byte q.2 (m_sb.getD k []).length (fun j => .int ((m_sb.getD k []).getD j 0)) (m_A s.heap.size) s s.heap := by
    intro k
    by_cases hk : k < 27
    · obtain ⟨a, c, cA, kA, q1, q2, q3, q4, q5, q6, -⟩ := Cond.exactly_spec (args := A0) (first := s) (o := none) (s := s) (idx := []) (t := m_tm k) (cls := "java/lang/String") (hfl _ (m_f1 k hk))
      obtain ⟨t, ht, hT⟩ := va_Tof (f := fun j => .int ((m_sb.getD k []).getD j 0)) (A := m_A s.heap.size) (m_len27 k hk) (hfl _ (m_f3 k hk)) (va_eqt (hfl _ (m_f4 k hk))) (fun j hj => va_eqt (hfl _ (m_f5 k hk j hj))) hA
      exact ⟨(a, t), fun _ => ⟨q1, ⟨cA, q3, q5, by rw [q6]; exact q2, hA a (Array.getElem?_eq_some_iff.mp q3).1⟩, vk_OFof q1 (va_eqt (hfl _ (m_f2 k hk))) hA, vk_OFof q1 ht hA, hT⟩⟩
    · exact ⟨(0, 0), fun h => absurd h hk⟩
  obtain ⟨adKV, hKV⟩ := Classical.axiomOfChoice h0
  have h1 : ∀ c : Nat, ∃ z : ClassId × (Nat → Nat), ∀ q, m_cl[c]? = some q → u_Kn s q.1 q.2.1 q.2.2 z.1 z.2 := by
    intro c
    cases hq : m_cl[c]? with
    | none => exact ⟨(0, fun _ => 0), fun q h => by cases h⟩
    | some q =>
      obtain ⟨C, T, n⟩ := q
      obtain ⟨cC, iS, hKn⟩ := u_known (ws := lw_tbl) (C := C) (T := T) (N := n) (n := n) hts (fun w hw => ((m_clok hq).1 w hw).1) (hts _ (m_f7 _ (List.mem_of_getElem? hq)))
      exact ⟨(cC, iS), fun q h => by cases h; exact hKn⟩
  obtain ⟨zz, hzz⟩ := Classical.axiomOfChoice h1
  obtain ⟨cI, kI, pI, i1, i2, i3⟩ := Cond.arrayClass_spec (type := .int) (hts (.arrayClass .int) (by decide +kernel))
  obtain ⟨cL, kL, pL, l1, l2, l3⟩ := Cond.arrayClass_spec (type := .long) (hts (.arrayClass .long) (by decide +kernel))
  have hAO : va_AO "IsHeIn$Moment" s := va_AO.of (hts (.arrayOver (.object "IsHeIn$Moment")) (by decide +kernel))
  obtain ⟨pM, cM, kM, o1, o2, o3, o4, o5⟩ := Cond.arrayOver_spec (hts (.arrayOver (.object "IsHeIn$Moment")) (by decide +kernel))
  refine ⟨m_ad s.heap.size b tU (fun k => (adKV k).1) (fun k => (adKV k).2), vF, fun c => (zz c).1, fun c => (zz c).2, fun k => if k = 0 then cI else if k = 1 then cL else cM, ⟨⟨fun c q hq => hzz c q hq, fun k q hk => ?_⟩, fun w hw => va_Nw.of (m_nest_on w hw) (hts _ (m_f8 w hw)), hAO, ⟨hX, hbl, hbl⟩, hT5, hZ0, hZ1, hZ2, fun k hk => ?_, fun k hk q hq => ?_, Nat.le_refl _, ?_, fun j hj => ?_⟩, ?_⟩
  · match k, hk with
    | 0, hk => cases hk; exact ⟨fun n z => ⟨fun k h => (by cases h), kI, i2, pI, i3⟩, i1⟩
    | 1, hk => cases hk; exact ⟨fun n z => ⟨fun k h => (by cases h), kL, l2, pL, l3⟩, l1⟩
    | 2, hk => cases hk; exact ⟨fun n z => ⟨fun k h => (by cases h), kM, o3, pM, o4⟩, kM, pM, o3, o4, o1, o5⟩
    | k + 3, hk => simp [m_tys] at hk
  · obtain ⟨-, g1, g2, g3, g4⟩ := hKV k hk
    have e1 : m_ad s.heap.size b tU (fun k => (adKV k).1) (fun k => (adKV k).2) (1000100 + k) = (adKV k).1 := by
      unfold m_ad
      rw [if_neg (by omega), if_neg (by omega), if_neg (by omega), if_pos (by omega), show 1000100 + k - 1000100 = k by omega]
    have e2 : m_ad s.heap.size b tU (fun k => (adKV k).1) (fun k => (adKV k).2) (1000200 + k) = (adKV k).2 := by
      unfold m_ad
      rw [if_neg (by omega), if_neg (by omega), if_neg (by omega), if_neg (by omega), show 1000200 + k - 1000200 = k by omega]
    rw [e1, e2]
    exact ⟨g1, g2, g3, g4⟩
  · obtain ⟨g0, -⟩ := hKV k hk
    obtain ⟨q', hq', ht⟩ := m_str27 k hk
    cases hq.symm.trans hq'
    have e1 : m_ad s.heap.size b tU (fun k => (adKV k).1) (fun k => (adKV k).2) (1000100 + k) = (adKV k).1 := by
      unfold m_ad
      rw [if_neg (by omega), if_neg (by omega), if_neg (by omega), if_pos (by omega), show 1000100 + k - 1000100 = k by omega]
    rw [e1]
    exact vk_R.of (A := A0) (hts _ (m_f6 k hk _ hq)) (by rw [← ht]; exact g0)
  · cases vF <;> simp [Value.isRef] at hvr <;> rfl
  · unfold m_ad; rw [if_pos hj]
  · unfold m_ad; rw [if_neg (by omega), if_pos rfl]
section ST
variable {p : Program} {e : Env} {s : State} {m : MethodId} {below : List Frame} {meth : Method} {c : Code}
def lw_Q (_ : Array Value) (s : State) (o : Outcome) (t : State) : Prop := o = .returned (some (.int 1)) ∧ Framed s o t [] 600000 7302249
def lw_Z (below : List Frame) (a : Array Value) (s : State) : State → Prop := fun t => ∃ o, t.status = .running ∧ Ended t below o ∧ lw_Q a s o t
theorem lw_ret {l : Launch} {b : Nat} (hx : p.tables.exec = Jvm.exec) (hb : c.code = code) (hr : meth.sig.returnType = ret) (hlocks : meth.locks = false) {pc : Nat} {H : Heap} {ls : Array Slot} (hdg : decode code pc = .ok (.ireturn, 1)) : W p l e room_1 s m #[Value.ref b] below meth c H [] 600000 7302249 (lw_Z below #[Value.ref b] s) (F0 m pc ls [.int 1]) := by
  intro T hT X
  obtain ⟨fs, hret, hrun, hended, hW, hframe⟩ := X.leave (v := some (.int 1)) (hlocks := hlocks) (fun h => by rw [hr] at h; cases h)
  have hmeth' : T.vm.method? m = some meth := X.method'
  refine ⟨T.setFrames fs, ?_, .returned (some (.int 1)), hrun, hended, rfl, ⟨_, rfl⟩, hW, hframe⟩
  jvm_step X.here [X.here.top, hx, hb, hdg, hmeth', hr, ret, narrow_b1]
  (try refine ⟨rfl, ?_⟩); (try refine ⟨rfl, ?_⟩)
  first | (intro acts; rw [hret _ acts rfl rfl rfl]) | rw [hret _ _ rfl rfl rfl]
  exact Steps.refl _
/-- a run of the small machine through the law, to 1, is the claim's walk -/
theorem m_start {l : Launch} {b L : Nat} {xs : Nat → Int32} (hx : p.tables.exec = Jvm.exec) (hb : c.code = code) (hr : meth.sig.returnType = ret) (hml : c.maxLocals = 4) (hown : s.vm.findClass R_law = some m.cls) (hts : ∀ w ∈ lw_tbl, w.before #[Value.ref b] s = true) (hX : va_X b L xs s s.heap) (hbl : b < s.heap.size) (hlocks : meth.locks = false) (hgv : (Jvm.Cond.and given_1 narrow_1).before #[Value.ref b] s = true)
    {n : Nat} {h' : mH} (hrun : m_run m_tab L xs n 300 meL 0 [some (.ref 1000000), none, none, none] [] ([], fun _ _ => 0, fun _ _ => 0) = some (some (.int 1), h')) (h1 : h'.1.length ≤ 600000) (h2 : m_sl h'.1 ≤ 7302249) :
    W p l e room_1 s m #[Value.ref b] below meth c s.heap [] 0 0 (lw_Z below #[Value.ref b] s) (entryFrame m ([Value.ref b] : List Value).toArray 4) := by
  obtain ⟨ad, vF, dC, dI, dA, hF, hadb⟩ := m_Fx_start hts hgv hX hbl
  have hl := lv_entry ([.ref b]) (n := 4) (Nat.le_of_ble_eq_true rfl)
  rw [lg_entry_eq]
  generalize (lg_sl ([.ref b]) ++ List.replicate (4 - (lg_sl ([.ref b])).length) Slot.unset).toArray = lsA at hl ⊢
  have hl : lv_has lsA 4 [(0, .ref b)] := hl
  have hLH : m_LH ad vF lsA 4 [some (.ref 1000000), none, none, none] := by
    refine m_LH.of hl fun i v hi => ?_
    match i, hi with
    | 0, hi => cases hi; simp [m_v, hadb]
    | 1, hi => cases hi
    | 2, hi => cases hi
    | 3, hi => cases hi
    | i + 4, hi => simp at hi
  have hP0 : va_P (dC, dI) m_cl (m_ws dA ad ([], fun _ _ => 0, fun _ _ => 0)) s.heap := fun k q hk => by simp [m_ws] at hk
  refine m_run_W m_tab_ok n 300 meL 0 _ [] _ _ _ hrun m_law_ok hx hb hml hown (fun q => ?_) (fun w hw => hts w (List.mem_filter.mp hw).1) hF ⟨by decide +kernel, by decide +kernel⟩ hP0 rfl (by decide) va_S.rf hLH rfl (by show 0 + (_ - 0) ≤ 600000; omega) (by show 0 + (_ - 0) ≤ 7302249; omega) ?_
  · exact absurd q (by decide +kernel)
  · intro pc' ins aux st' H' locs' cells' slots' lsA' hisr hd hret hP' hsz' hlen' hS' hc hs
    have hret : m_ret (some .boolean) ins st' = some (some (.int 1)) := hret
    have hc' : cells' = h'.1.length := by have : cells' + 0 = 0 + h'.1.length := hc; omega
    have hs' : slots' = m_sl h'.1 := by have : slots' + 0 = 0 + m_sl h'.1 := hs; omega
    unfold m_ret at hret
    split at hret
    · cases hret
    · next v =>
      simp only at hret
      split at hret
      · cases hret
        refine va_forget (fun q hq => hS'.2.2 q hq) ?_
        refine W.widen (k := 600000) (n := 7302249) (by omega) (by omega) ?_
        exact lw_ret hx hb hr hlocks hd
      · cases hret
    · cases hret
    · cases hret
    · cases hret
    · cases hret
end ST
