/-! the shapes of all cells, once both objects are made -/
def SH : List mS := [.inr (11, [.ref 1, .ref 18, .int 0, .ref 35, .ref 55, .ref 68, .ref 71, .ref 73, .ref 77, .ref 82, .ref 83]), .inr (2, [.ref 2, .ref 4, .ref 6, .ref 8, .ref 10, .ref 12, .ref 14, .ref 16, .int 0, .int 0, .int 0, .int 0]), .inr (10, [.int 0, .int 0, .ref 3, .int 0]), .inl (0, 132, []), .inr (10, [.int 0, .int 0, .ref 5, .int 0]), .inl (0, 750, []), .inr (10, [.int 0, .int 0, .ref 7, .int 0]), .inl (0, 64, []), .inr (10, [.int 0, .int 0, .ref 9, .int 0]), .inl (0, 400, []), .inr (10, [.int 0, .int 0, .ref 11, .int 0]), .inl (0, 12, []), .inr (10, [.int 0, .int 0, .ref 13, .int 0]), .inl (0, 48, []), .inr (10, [.int 0, .int 0, .ref 15, .int 0]), .inl (0, 32, []), .inr (10, [.int 0, .int 0, .ref 17, .int 0]), .inl (0, 24, []), .inr (2, [.ref 19, .ref 21, .ref 23, .ref 25, .ref 27, .ref 29, .ref 31, .ref 33, .int 0, .int 0, .int 0, .int 0]), .inr (10, [.int 0, .int 0, .ref 20, .int 0]), .inl (0, 132, []), .inr (10, [.int 0, .int 0, .ref 22, .int 0]), .inl (0, 750, []), .inr (10, [.int 0, .int 0, .ref 24, .int 0]), .inl (0, 64, []), .inr (10, [.int 0, .int 0, .ref 26, .int 0]), .inl (0, 400, []), .inr (10, [.int 0, .int 0, .ref 28, .int 0]), .inl (0, 12, []), .inr (10, [.int 0, .int 0, .ref 30, .int 0]), .inl (0, 48, []), .inr (10, [.int 0, .int 0, .ref 32, .int 0]), .inl (0, 32, []), .inr (10, [.int 0, .int 0, .ref 34, .int 0]), .inl (0, 24, []), .inr (5, [.ref 36, .int 0, .int 0]), .inl (2, 6, [some 37, some 40, some 43, some 46, some 49, some 52]), .inr (4, [.ref 38, .int 0, .int 0, .int 0]), .inr (10, [.int 0, .int 0, .ref 39, .int 0]), .inl (0, 132, []), .inr (4, [.ref 41, .int 0, .int 0, .int 0]), .inr (10, [.int 0, .int 0, .ref 42, .int 0]), .inl (0, 132, []), .inr (4, [.ref 44, .int 0, .int 0, .int 0]), .inr (10, [.int 0, .int 0, .ref 45, .int 0]), .inl (0, 132, []), .inr (4, [.ref 47, .int 0, .int 0, .int 0]), .inr (10, [.int 0, .int 0, .ref 48, .int 0]), .inl (0, 132, []), .inr (4, [.ref 50, .int 0, .int 0, .int 0]), .inr (10, [.int 0, .int 0, .ref 51, .int 0]), .inl (0, 132, []), .inr (4, [.ref 53, .int 0, .int 0, .int 0]), .inr (10, [.int 0, .int 0, .ref 54, .int 0]), .inl (0, 132, []), .inr (7, [.ref 56, .ref 58, .ref 60, .ref 62, .ref 64, .ref 65, .ref 67, .int 0, .int 0, .int 0, .int 0, .int 0, .int 0, .int 0, .int 0, .int 0, .int 0]), .inr (10, [.int 0, .int 0, .ref 57, .int 0]), .inl (0, 64, []), .inr (10, [.int 0, .int 0, .ref 59, .int 0]), .inl (0, 400, []), .inr (10, [.int 0, .int 0, .ref 61, .int 0]), .inl (0, 12, []), .inr (10, [.int 0, .int 0, .ref 63, .int 0]), .inl (0, 48, []), .inl (0, 400, []), .inr (10, [.int 0, .int 0, .ref 66, .int 0]), .inl (0, 1203, []), .inl (0, 64, []), .inr (3, [.ref 1, .ref 69, .ref 70]), .inl (0, 9, []), .inl (0, 64, []), .inr (6, [.ref 1, .ref 68, .ref 72]), .inl (0, 5, []), .inr (0, [.ref 1, .ref 68, .ref 74, .ref 75, .ref 76]), .inl (0, 6, []), .inl (0, 13, []), .inl (0, 12, []), .inr (1, [.ref 1, .ref 68, .ref 78, .ref 80]), .inr (10, [.int 0, .int 0, .ref 79, .int 0]), .inl (0, 48, []), .inr (10, [.int 0, .int 0, .ref 81, .int 0]), .inl (0, 48, []), .inr (8, [.ref 1]), .inr (9, [.ref 1, .ref 73, .ref 84, .ref 85, .ref 86, .ref 87, .int 0, .long 0]), .inl (0, 8, []), .inl (0, 4, []), .inl (0, 4, []), .inl (0, 4, []), .inr (12, [.ref 89, .ref 90, .ref 91, .int 0, .int 0, .ref 92, .ref 93, .ref 94, .ref 95, .ref 96, .ref 97, .int 0, .int 0, .int 0, .int 0, .int 0, .int 0, .int 0, .int 0, .int 0, .int 0, .int 0, .int 0, .int 0, .int 0, .int 0, .ref 98, .ref 99, .ref 100, .ref 101, .ref 102, .long 0, .int 0, .ref 103, .ref 104]), .inl (0, 1894, []), .inl (0, 1894, []), .inl (0, 672, []), .inl (0, 64, []), .inl (0, 820, []), .inl (0, 48, []), .inl (0, 400, []), .inl (0, 420, []), .inl (0, 10, []), .inl (1, 13, []), .inl (1, 14, []), .inl (1, 4, []), .inl (0, 4, []), .inl (0, 4, []), .inl (0, 48, []), .inl (0, 50, [])]
theorem sh3 : SH[3]? = some (.inl (0, 132, [])) := rfl
theorem sh5 : SH[5]? = some (.inl (0, 750, [])) := rfl
theorem sh7 : SH[7]? = some (.inl (0, 64, [])) := rfl
theorem sh9 : SH[9]? = some (.inl (0, 400, [])) := rfl
theorem sh11 : SH[11]? = some (.inl (0, 12, [])) := rfl
theorem sh13 : SH[13]? = some (.inl (0, 48, [])) := rfl
theorem sh15 : SH[15]? = some (.inl (0, 32, [])) := rfl
theorem sh17 : SH[17]? = some (.inl (0, 24, [])) := rfl
theorem sh20 : SH[20]? = some (.inl (0, 132, [])) := rfl
theorem sh22 : SH[22]? = some (.inl (0, 750, [])) := rfl
theorem sh24 : SH[24]? = some (.inl (0, 64, [])) := rfl
theorem sh26 : SH[26]? = some (.inl (0, 400, [])) := rfl
theorem sh28 : SH[28]? = some (.inl (0, 12, [])) := rfl
theorem sh30 : SH[30]? = some (.inl (0, 48, [])) := rfl
theorem sh32 : SH[32]? = some (.inl (0, 32, [])) := rfl
theorem sh34 : SH[34]? = some (.inl (0, 24, [])) := rfl
theorem sh39 : SH[39]? = some (.inl (0, 132, [])) := rfl
theorem sh42 : SH[42]? = some (.inl (0, 132, [])) := rfl
theorem sh45 : SH[45]? = some (.inl (0, 132, [])) := rfl
theorem sh48 : SH[48]? = some (.inl (0, 132, [])) := rfl
theorem sh51 : SH[51]? = some (.inl (0, 132, [])) := rfl
theorem sh54 : SH[54]? = some (.inl (0, 132, [])) := rfl
theorem sh57 : SH[57]? = some (.inl (0, 64, [])) := rfl
theorem sh59 : SH[59]? = some (.inl (0, 400, [])) := rfl
theorem sh61 : SH[61]? = some (.inl (0, 12, [])) := rfl
theorem sh63 : SH[63]? = some (.inl (0, 48, [])) := rfl
theorem sh64 : SH[64]? = some (.inl (0, 400, [])) := rfl
theorem sh66 : SH[66]? = some (.inl (0, 1203, [])) := rfl
theorem sh67 : SH[67]? = some (.inl (0, 64, [])) := rfl
theorem sh69 : SH[69]? = some (.inl (0, 9, [])) := rfl
theorem sh70 : SH[70]? = some (.inl (0, 64, [])) := rfl
theorem sh72 : SH[72]? = some (.inl (0, 5, [])) := rfl
theorem sh74 : SH[74]? = some (.inl (0, 6, [])) := rfl
theorem sh75 : SH[75]? = some (.inl (0, 13, [])) := rfl
theorem sh76 : SH[76]? = some (.inl (0, 12, [])) := rfl
theorem sh79 : SH[79]? = some (.inl (0, 48, [])) := rfl
theorem sh81 : SH[81]? = some (.inl (0, 48, [])) := rfl
theorem sh84 : SH[84]? = some (.inl (0, 8, [])) := rfl
theorem sh85 : SH[85]? = some (.inl (0, 4, [])) := rfl
theorem sh86 : SH[86]? = some (.inl (0, 4, [])) := rfl
theorem sh87 : SH[87]? = some (.inl (0, 4, [])) := rfl
theorem sh89 : SH[89]? = some (.inl (0, 1894, [])) := rfl
theorem sh90 : SH[90]? = some (.inl (0, 1894, [])) := rfl
theorem sh91 : SH[91]? = some (.inl (0, 672, [])) := rfl
theorem sh92 : SH[92]? = some (.inl (0, 64, [])) := rfl
theorem sh93 : SH[93]? = some (.inl (0, 820, [])) := rfl
theorem sh94 : SH[94]? = some (.inl (0, 48, [])) := rfl
theorem sh95 : SH[95]? = some (.inl (0, 400, [])) := rfl
theorem sh96 : SH[96]? = some (.inl (0, 420, [])) := rfl
theorem sh97 : SH[97]? = some (.inl (0, 10, [])) := rfl
theorem sh98 : SH[98]? = some (.inl (1, 13, [])) := rfl
theorem sh99 : SH[99]? = some (.inl (1, 14, [])) := rfl
theorem sh100 : SH[100]? = some (.inl (1, 4, [])) := rfl
theorem sh101 : SH[101]? = some (.inl (0, 4, [])) := rfl
theorem sh102 : SH[102]? = some (.inl (0, 4, [])) := rfl
theorem sh103 : SH[103]? = some (.inl (0, 48, [])) := rfl
theorem sh104 : SH[104]? = some (.inl (0, 50, [])) := rfl
def m_alen (j : Nat) : Nat := match SH[j]? with
  | some (.inl (_, n, _)) => n
  | _ => 0
/-- a Table, a House, a Moment stands there -/
def isT (t : Nat) : Prop := SH[t]? = some (.inr (10, [.int 0, .int 0, .ref (t + 1), .int 0])) ∧ SH[t + 1]? = some (.inl (0, m_alen (t + 1), []))
def isH (t : Nat) : Prop := SH[t]? = some (.inr (2, [.ref (t + 1), .ref (t + 3), .ref (t + 5), .ref (t + 7), .ref (t + 9), .ref (t + 11), .ref (t + 13), .ref (t + 15), .int 0, .int 0, .int 0, .int 0])) ∧ ∀ k, k < 8 → isT (t + (2 * k + 1))
def isM (t : Nat) : Prop := SH[t]? = some (.inr (4, [.ref (t + 1), .int 0, .int 0, .int 0])) ∧ isT (t + 1)
theorem isH_t {t : Nat} (h : isH t) (k : Nat) (hk : k < 8) : isT (t + (2 * k + 1)) := h.2 k hk
theorem isT_2 : isT 2 := ⟨rfl, rfl⟩
theorem isT_4 : isT 4 := ⟨rfl, rfl⟩
theorem isT_6 : isT 6 := ⟨rfl, rfl⟩
theorem isT_8 : isT 8 := ⟨rfl, rfl⟩
theorem isT_10 : isT 10 := ⟨rfl, rfl⟩
theorem isT_12 : isT 12 := ⟨rfl, rfl⟩
theorem isT_14 : isT 14 := ⟨rfl, rfl⟩
theorem isT_16 : isT 16 := ⟨rfl, rfl⟩
theorem isT_19 : isT 19 := ⟨rfl, rfl⟩
theorem isT_21 : isT 21 := ⟨rfl, rfl⟩
theorem isT_23 : isT 23 := ⟨rfl, rfl⟩
theorem isT_25 : isT 25 := ⟨rfl, rfl⟩
theorem isT_27 : isT 27 := ⟨rfl, rfl⟩
theorem isT_29 : isT 29 := ⟨rfl, rfl⟩
theorem isT_31 : isT 31 := ⟨rfl, rfl⟩
theorem isT_33 : isT 33 := ⟨rfl, rfl⟩
theorem isT_38 : isT 38 := ⟨rfl, rfl⟩
theorem isT_41 : isT 41 := ⟨rfl, rfl⟩
theorem isT_44 : isT 44 := ⟨rfl, rfl⟩
theorem isT_47 : isT 47 := ⟨rfl, rfl⟩
theorem isT_50 : isT 50 := ⟨rfl, rfl⟩
theorem isT_53 : isT 53 := ⟨rfl, rfl⟩
theorem isT_56 : isT 56 := ⟨rfl, rfl⟩
theorem isT_58 : isT 58 := ⟨rfl, rfl⟩
theorem isT_60 : isT 60 := ⟨rfl, rfl⟩
theorem isT_62 : isT 62 := ⟨rfl, rfl⟩
theorem isT_65 : isT 65 := ⟨rfl, rfl⟩
theorem isT_78 : isT 78 := ⟨rfl, rfl⟩
theorem isT_80 : isT 80 := ⟨rfl, rfl⟩
theorem isH_1 : isH 1 := ⟨rfl, fun k hk => match k, hk with
  | 0, _ => isT_2
  | 1, _ => isT_4
  | 2, _ => isT_6
  | 3, _ => isT_8
  | 4, _ => isT_10
  | 5, _ => isT_12
  | 6, _ => isT_14
  | 7, _ => isT_16
  | k + 8, hk => absurd hk (by omega)⟩
theorem isH_18 : isH 18 := ⟨rfl, fun k hk => match k, hk with
  | 0, _ => isT_19
  | 1, _ => isT_21
  | 2, _ => isT_23
  | 3, _ => isT_25
  | 4, _ => isT_27
  | 5, _ => isT_29
  | 6, _ => isT_31
  | 7, _ => isT_33
  | k + 8, hk => absurd hk (by omega)⟩
theorem isM_37 : isM 37 := ⟨rfl, isT_38⟩
theorem isM_40 : isM 40 := ⟨rfl, isT_41⟩
theorem isM_43 : isM 43 := ⟨rfl, isT_44⟩
theorem isM_46 : isM 46 := ⟨rfl, isT_47⟩
theorem isM_49 : isM 49 := ⟨rfl, isT_50⟩
theorem isM_52 : isM 52 := ⟨rfl, isT_53⟩
