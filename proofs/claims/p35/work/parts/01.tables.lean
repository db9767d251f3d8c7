-- ===== PART A: goes FIRST, ahead of the names: the tables' words, and 'selects' of the private methods out of them =====
/-- a list cut into lists of 32 -/
def mk_chs {α : Type} : Nat → List α → List (List α)
  | 0, _ => []
  | n + 1, l => l :: mk_chs n (l.drop 32)
theorem mk_chs_get {α : Type} : ∀ (n k : Nat) (l c : List α), (mk_chs n l)[k]? = some c → c = l.drop (32 * k)
  | 0, k, l, c, h => by simp [mk_chs] at h
  | n + 1, 0, l, c, h => by
    have h2 : some l = some c := h
    exact (Option.some.inj h2).symm
  | n + 1, k + 1, l, c, h => by
    have h2 : (mk_chs n (l.drop 32))[k]? = some c := h
    rw [mk_chs_get n k _ c h2, List.drop_drop]
    congr 1
    omega
def mk_nth {α : Type} (o : List (List α)) (i : Nat) : Option α := match o[i / 32]? with
  | some c => c[i % 32]?
  | none => none
theorem mk_nth_ok {α : Type} {n : Nat} {l : List α} {i : Nat} {a : α} (h : mk_nth (mk_chs n l) i = some a) : l[i]? = some a := by
  unfold mk_nth at h
  split at h
  · next c hc =>
    rw [mk_chs_get n _ l c hc, List.getElem?_drop] at h
    rwa [show 32 * (i / 32) + i % 32 = i by omega] at h
  · cases h
theorem mk_zip {α β : Type} {f : α × β → Bool} : ∀ (l : List α) (m : List β), (l.zip m).all f = true → l.length ≤ m.length → ∀ a ∈ l, ∃ b, f (a, b) = true
  | [], _, _, _, q, hq => by cases hq
  | a :: l, [], _, h2, q, hq => absurd h2 (Nat.not_succ_le_zero _)
  | a :: l, b :: m, h1, h2, q, hq => by
    have h3 : (f (a, b) && (l.zip m).all f) = true := h1
    rw [Bool.and_eq_true] at h3
    rcases List.mem_cons.mp hq with e | hq
    · exact ⟨b, by rw [e]; exact h3.1⟩
    · exact mk_zip l m h3.2 (Nat.le_of_succ_le_succ h2) q hq
/-- a name as a number -/
def mk_code (s : String) : Nat := s.toByteArray.data.toList.foldl (fun n b => n * 256 + b.toNat) 1

/-- a private method of a class that the tables say can be made, by its rows of tables_1 -/
def lw_okq (q : MethodName × Nat) : Prop := (q.1.cls ≠ "java/lang/invoke/MethodHandle" ∧ q.1.cls ≠ "java/lang/invoke/VarHandle") ∧ Cond.instantiable q.1.cls q.2 ∈ tables_1 ∧ Cond.privateMethod q.1 ∈ tables_1 ∧ Cond.instanceMethod q.1 ∈ tables_1
abbrev mk_PQ : Type := (MethodName × Nat) × Nat × Nat
def mk_i1 : List (List Cond) := mk_chs 80 tables_1
def mk_ck (q : mk_PQ) : Bool := decide (q.1.1.cls ≠ "java/lang/invoke/MethodHandle") && (decide (q.1.1.cls ≠ "java/lang/invoke/VarHandle") && (decide (mk_nth mk_i1 q.2.1 = some (Cond.instantiable q.1.1.cls q.1.2)) && (decide (mk_nth mk_i1 q.2.2 = some (Cond.privateMethod q.1.1)) && decide (mk_nth mk_i1 (q.2.2 + 1) = some (Cond.instanceMethod q.1.1)))))
theorem mk_ck_ok {q : mk_PQ} (h : mk_ck q = true) : lw_okq q.1 := by
  simp only [mk_ck, Bool.and_eq_true, decide_eq_true_eq] at h
  exact ⟨⟨h.1, h.2.1⟩, List.mem_of_getElem? (mk_nth_ok h.2.2.1), List.mem_of_getElem? (mk_nth_ok h.2.2.2.1), List.mem_of_getElem? (mk_nth_ok h.2.2.2.2)⟩
theorem mk_all (l : List (MethodName × Nat)) (is : List (Nat × Nat)) (h1 : (l.zip is).all mk_ck = true) (h2 : l.length ≤ is.length) (q : MethodName × Nat) (hq : q ∈ l) : lw_okq q := by
  obtain ⟨b, h⟩ := mk_zip l is h1 h2 q hq
  exact mk_ck_ok h
def lw_privs_1 : List (MethodName × Nat) := [(⟨"IsHeIn", "canSet", "(III)Z"⟩, 11), (⟨"IsHeIn$Past", "momentAt", "(I)LIsHeIn$Moment;"⟩, 3), (⟨"IsHeIn$Porter", "ask", "(I)V"⟩, 3), (⟨"IsHeIn$Law", "valueOf", "(II)I"⟩, 3), (⟨"IsHeIn$Porter", "comes", "(I)Z"⟩, 3), (⟨"IsHeIn$Porter", "isDrawn", "(I)Z"⟩, 3), (⟨"IsHeIn$Porter", "goes", "(I)Z"⟩, 3), (⟨"IsHeIn$Porter", "hangKey", "(I)V"⟩, 3), (⟨"IsHeIn$Reader", "splitTape", "()V"⟩, 17), (⟨"IsHeIn$Reader", "skipBlanks", "()Z"⟩, 17), (⟨"IsHeIn$Reader", "splitWord", "()V"⟩, 17), (⟨"IsHeIn$Reader", "wordNumber", "(I)I"⟩, 17), (⟨"IsHeIn$Reader", "isWord", "(III)Z"⟩, 17), (⟨"IsHeIn$Reader", "addToken", "(III)V"⟩, 17), (⟨"IsHeIn$Reader", "splitNumber", "()V"⟩, 17), (⟨"IsHeIn$Reader", "stepOn", "()V"⟩, 17)]
def lw_privs_2 : List (MethodName × Nat) := [(⟨"IsHeIn$Reader", "readLaw", "()Z"⟩, 17), (⟨"IsHeIn$Reader", "refuse", "(I)Z"⟩, 17), (⟨"IsHeIn$Reader", "readSum", "()Z"⟩, 17), (⟨"IsHeIn$Reader", "readUnit", "()Z"⟩, 17), (⟨"IsHeIn$Reader", "emitIfAny", "(I)V"⟩, 17), (⟨"IsHeIn$Reader", "readPart", "()Z"⟩, 17), (⟨"IsHeIn$Reader", "readCondition", "()Z"⟩, 17), (⟨"IsHeIn$Reader", "readOpenings", "()Z"⟩, 17), (⟨"IsHeIn$Reader", "hold", "(I)V"⟩, 17), (⟨"IsHeIn$Reader", "stepOfComparison", "()I"⟩, 17), (⟨"IsHeIn$Reader", "readClosings", "()V"⟩, 17), (⟨"IsHeIn$Reader", "closeNots", "()V"⟩, 17), (⟨"IsHeIn$Reader", "lastWaiting", "()I"⟩, 17), (⟨"IsHeIn$Reader", "joinWhatWaits", "(Z)V"⟩, 17), (⟨"IsHeIn$Reader", "pass", "(I)Z"⟩, 17), (⟨"IsHeIn$Reader", "readSign", "()Z"⟩, 17)]
def lw_privs_3 : List (MethodName × Nat) := [(⟨"IsHeIn$Reader", "readHead", "(ILIsHeIn$Table;)Z"⟩, 17), (⟨"IsHeIn$Reader", "readNamed", "(IIILIsHeIn$Table;I)Z"⟩, 17), (⟨"IsHeIn$Reader", "readShift", "()Z"⟩, 17), (⟨"IsHeIn$Belief", "glanceAt", "(I)V"⟩, 5), (⟨"IsHeIn$Belief", "sureByGlance", "(I)I"⟩, 5), (⟨"IsHeIn$Belief", "sureAfter", "(IIZ)I"⟩, 5), (⟨"IsHeIn$Records", "clerkOfLastGoing", "(I)I"⟩, 1), (⟨"IsHeIn$Records", "hangsWrong", "(I)Z"⟩, 1), (⟨"IsHeIn", "lookAtTold", "(I)I"⟩, 11), (⟨"IsHeIn$Belief", "bestSign", "(I)I"⟩, 5), (⟨"IsHeIn$Belief", "surenessBy", "(II)J"⟩, 5), (⟨"IsHeIn$Belief", "chanceToSee", "(II)I"⟩, 5), (⟨"IsHeIn$Belief", "weighAll", "()V"⟩, 5), (⟨"IsHeIn$Belief", "countChances", "(I)V"⟩, 5), (⟨"IsHeIn$Belief", "countChance", "(I)V"⟩, 5), (⟨"IsHeIn$Belief", "chanceWithin", "(II)I"⟩, 5)]
def lw_privs_4 : List (MethodName × Nat) := [(⟨"IsHeIn$Foresight", "countGoings", "(I)V"⟩, 4), (⟨"IsHeIn$Foresight", "restFrom", "(IIII)I"⟩, 4), (⟨"IsHeIn$Rounds", "roomsBefore", "(I)I"⟩, 8), (⟨"IsHeIn$Rounds", "canBeDone", "(I)Z"⟩, 8), (⟨"IsHeIn$Rounds", "minutesDueBy", "(II)I"⟩, 8), (⟨"IsHeIn$Rounds", "isBetter", "(II)Z"⟩, 8), (⟨"IsHeIn$Rounds", "searchOn", "(IIIIJ)V"⟩, 8), (⟨"IsHeInModel", "forgets", "()V"⟩, 35), (⟨"IsHeInModel", "isGuest", "(I)Z"⟩, 35), (⟨"IsHeInModel", "next0", "()V"⟩, 35), (⟨"IsHeInModel", "see", "(I)I"⟩, 35), (⟨"IsHeInModel", "word", "()I"⟩, 35), (⟨"IsHeInModel", "lawWord", "()I"⟩, 35), (⟨"IsHeInModel", "is", "(Ljava/lang/String;)Z"⟩, 35), (⟨"IsHeInModel", "asked", "()I"⟩, 35), (⟨"IsHeInModel", "wordOfLaw", "()I"⟩, 35)]
def lw_privs_5 : List (MethodName × Nat) := [(⟨"IsHeInModel", "signWord", "()I"⟩, 35), (⟨"IsHeInModel", "shiftWord", "()I"⟩, 35), (⟨"IsHeInModel", "readsLaw", "()Z"⟩, 35), (⟨"IsHeInModel", "aLine", "()Z"⟩, 35), (⟨"IsHeInModel", "bad", "(I)Z"⟩, 35), (⟨"IsHeInModel", "sumUp", "()Z"⟩, 35), (⟨"IsHeInModel", "product", "()Z"⟩, 35), (⟨"IsHeInModel", "unit", "()Z"⟩, 35), (⟨"IsHeInModel", "lay", "(II)V"⟩, 35), (⟨"IsHeInModel", "any", "()Z"⟩, 35), (⟨"IsHeInModel", "every", "()Z"⟩, 35), (⟨"IsHeInModel", "oneTest", "()Z"⟩, 35), (⟨"IsHeInModel", "opens", "()Z"⟩, 35), (⟨"IsHeInModel", "need", "(I)Z"⟩, 35), (⟨"IsHeInModel", "readsRows", "()Z"⟩, 35), (⟨"IsHeInModel", "aSign", "()Z"⟩, 35)]
def lw_privs_6 : List (MethodName × Nat) := [(⟨"IsHeInModel", "told", "(IIII)Z"⟩, 35), (⟨"IsHeInModel", "number", "(II)Z"⟩, 35), (⟨"IsHeInModel", "aShift", "()Z"⟩, 35), (⟨"IsHeInModel", "putsLaw", "()I"⟩, 35), (⟨"IsHeInModel", "putsSigns", "()I"⟩, 35), (⟨"IsHeInModel", "putsShifts", "()I"⟩, 35), (⟨"IsHeInModel", "keeps", "()V"⟩, 35), (⟨"IsHeInModel", "anHour", "()I"⟩, 35), (⟨"IsHeInModel", "isMoved", "(I)Z"⟩, 35), (⟨"IsHeInModel", "saysNow", "(II)I"⟩, 35), (⟨"IsHeInModel", "saysIn", "(IIIII)I"⟩, 35), (⟨"IsHeInModel", "isOnBoard", "(I)Z"⟩, 35), (⟨"IsHeInModel", "isSo", "(I)Z"⟩, 35), (⟨"IsHeInModel", "comesTo", "(III)I"⟩, 35), (⟨"IsHeInModel", "without", "(II)I"⟩, 35), (⟨"IsHeInModel", "draw", "(I)I"⟩, 35)]
def lw_privs_7 : List (MethodName × Nat) := [(⟨"IsHeInModel", "hangsOn", "(III)I"⟩, 35), (⟨"IsHeInModel", "keyOn", "(I)I"⟩, 35), (⟨"IsHeInModel", "clerkAt", "(I)I"⟩, 35), (⟨"IsHeInModel", "notes", "(IIII)V"⟩, 35), (⟨"IsHeInModel", "isSign", "(I)Z"⟩, 35), (⟨"IsHeInModel", "sureOf", "(I)J"⟩, 35), (⟨"IsHeInModel", "bySign", "(JII)J"⟩, 35), (⟨"IsHeInModel", "byA", "(JJJ)J"⟩, 35), (⟨"IsHeInModel", "lookedAt", "(I)I"⟩, 35), (⟨"IsHeInModel", "nextOf", "(JI)I"⟩, 35), (⟨"IsHeInModel", "worthOf", "(JI)J"⟩, 35), (⟨"IsHeInModel", "seeing", "(JI)J"⟩, 35), (⟨"IsHeInModel", "laysChances", "()V"⟩, 35), (⟨"IsHeInModel", "tagCostOf", "(III)I"⟩, 35), (⟨"IsHeInModel", "longFrom", "(IJ)I"⟩, 35), (⟨"IsHeInModel", "laysOthers", "(I)V"⟩, 35)]
def lw_privs_8 : List (MethodName × Nat) := [(⟨"IsHeInModel", "movesIn", "(I)I"⟩, 35), (⟨"IsHeInModel", "isKnockedAhead", "(II)Z"⟩, 35), (⟨"IsHeInModel", "ofRoom", "(II)I"⟩, 35), (⟨"IsHeInModel", "canDo", "(I)Z"⟩, 35), (⟨"IsHeInModel", "worthOfSet", "(I)I"⟩, 35), (⟨"IsHeInModel", "swappedSet", "()I"⟩, 35), (⟨"IsHeInModel", "ringMany", "()I"⟩, 35), (⟨"IsHeInModel", "leadsRing", "(I)Z"⟩, 35), (⟨"IsHeInModel", "laysFloors", "()V"⟩, 35), (⟨"IsHeInModel", "searches", "(IIIJ)V"⟩, 35), (⟨"IsHeInModel", "laysDoors", "()V"⟩, 35), (⟨"IsHeInModel", "mostBy", "(III)I"⟩, 35), (⟨"IsHeInModel", "lastSawBy", "(I)I"⟩, 35), (⟨"IsHeInModel", "outs", "()I"⟩, 35), (⟨"IsHeInModel", "hooksWithKeys", "()I"⟩, 35)]
def lw_privs : List (MethodName × Nat) := lw_privs_1 ++ (lw_privs_2 ++ (lw_privs_3 ++ (lw_privs_4 ++ (lw_privs_5 ++ (lw_privs_6 ++ (lw_privs_7 ++ (lw_privs_8)))))))
def lw_tbl : List Cond := k2_sels lw_privs ++ tables_1
def mk_ps : List (Nat × Nat) := [(21, 437), (138, 474), (260, 512), (244, 532), (260, 547), (260, 551), (260, 568), (260, 572), (177, 604), (177, 612), (177, 623), (177, 627), (177, 680), (177, 685), (177, 694), (177, 698), (177, 704), (177, 709), (177, 713), (177, 717), (177, 729), (177, 733), (177, 738), (177, 742), (177, 746), (177, 750), (177, 754), (177, 758), (177, 762), (177, 767), (177, 771), (177, 775), (177, 779), (177, 783), (177, 787), (276, 841), (276, 846), (276, 853), (319, 902), (319, 914), (21, 959), (276, 971), (276, 976), (276, 980), (276, 1025), (276, 1033), (276, 1037), (276, 1049), (298, 1154), (298, 1159), (329, 1201), (329, 1214), (329, 1218), (329, 1222), (329, 1241), (1249, 1366), (1249, 1381), (1249, 1397), (1249, 1401), (1249, 1408), (1249, 1412), (1249, 1417), (1249, 1426), (1249, 1439), (1249, 1449), (1249, 1456), (1249, 1467), (1249, 1471), (1249, 1475), (1249, 1479), (1249, 1483), (1249, 1487), (1249, 1491), (1249, 1495), (1249, 1499), (1249, 1503), (1249, 1507), (1249, 1511), (1249, 1515), (1249, 1519), (1249, 1523), (1249, 1527), (1249, 1531), (1249, 1535), (1249, 1539), (1249, 1543), (1249, 1559), (1249, 1563), (1249, 1567), (1249, 1571), (1249, 1575), (1249, 1579), (1249, 1583), (1249, 1587), (1249, 1600), (1249, 1604), (1249, 1610), (1249, 1614), (1249, 1618), (1249, 1622), (1249, 1634), (1249, 1642), (1249, 1646), (1249, 1650), (1249, 1655), (1249, 1659), (1249, 1664), (1249, 1668), (1249, 1705), (1249, 1713), (1249, 1725), (1249, 1733), (1249, 1745), (1249, 1769), (1249, 1773), (1249, 1785), (1249, 1789), (1249, 1804), (1249, 1808), (1249, 1812), (1249, 1820), (1249, 1824), (1249, 1832), (1249, 1836), (1249, 1844), (1249, 1889), (1249, 1893)]
theorem lw_privs_ok : ∀ q ∈ lw_privs, lw_okq q := mk_all lw_privs mk_ps (by decide +kernel) (by decide +kernel)
def mk_ix : List (List Cond) := mk_chs 80 lw_tbl

def RX0 : String := "IsHeIn$Belief"
def TX0 : u_T := fun k => match k with
  | 0 => ("IsHeIn$Belief", "house", "LIsHeIn$House;", true)
  | 1 => ("IsHeIn$Belief", "law", "LIsHeIn$Law;", true)
  | 2 => ("IsHeIn$Belief", "glance", "[I", true)
  | 3 => ("IsHeIn$Belief", "chances", "[I", true)
  | _ => ("IsHeIn$Belief", "sures", "[I", true)
def tyX0 : Nat → FieldType := fun k => match k with
  | 0 => .object "IsHeIn$House"
  | 1 => .object "IsHeIn$Law"
  | 2 => .array .int
  | 3 => .array .int
  | _ => .array .int
theorem mk_ncX0 : ∀ a, a < 5 → ∀ b, b < 5 → a ≠ b → mk_code (TX0 a).2.1 ≠ mk_code (TX0 b).2.1 := by decide +kernel
theorem nmX0 : ∀ a, a < 5 → ∀ b, b < 5 → a ≠ b → (TX0 a).2.1 ≠ (TX0 b).2.1 := fun a ha b hb hn he => mk_ncX0 a ha b hb hn (congrArg mk_code he)
theorem tyX0_ok : ∀ k, k < 5 → parseFieldDescriptor (TX0 k).2.2.1 = some (tyX0 k) := by decide +kernel
def RX1 : String := "IsHeIn$Foresight"
def TX1 : u_T := fun k => match k with
  | 0 => ("IsHeIn$Foresight", "house", "LIsHeIn$House;", true)
  | 1 => ("IsHeIn$Foresight", "law", "LIsHeIn$Law;", true)
  | 2 => ("IsHeIn$Foresight", "seen", "LIsHeIn$Table;", true)
  | _ => ("IsHeIn$Foresight", "rest", "LIsHeIn$Table;", true)
def tyX1 : Nat → FieldType := fun k => match k with
  | 0 => .object "IsHeIn$House"
  | 1 => .object "IsHeIn$Law"
  | 2 => .object "IsHeIn$Table"
  | _ => .object "IsHeIn$Table"
theorem mk_ncX1 : ∀ a, a < 4 → ∀ b, b < 4 → a ≠ b → mk_code (TX1 a).2.1 ≠ mk_code (TX1 b).2.1 := by decide +kernel
theorem nmX1 : ∀ a, a < 4 → ∀ b, b < 4 → a ≠ b → (TX1 a).2.1 ≠ (TX1 b).2.1 := fun a ha b hb hn he => mk_ncX1 a ha b hb hn (congrArg mk_code he)
theorem tyX1_ok : ∀ k, k < 4 → parseFieldDescriptor (TX1 k).2.2.1 = some (tyX1 k) := by decide +kernel
def RX2 : String := "IsHeIn$House"
def TX2 : u_T := fun k => match k with
  | 0 => ("IsHeIn$House", "guests", "LIsHeIn$Table;", true)
  | 1 => ("IsHeIn$House", "book", "LIsHeIn$Table;", true)
  | 2 => ("IsHeIn$House", "laws", "LIsHeIn$Table;", true)
  | 3 => ("IsHeIn$House", "code", "LIsHeIn$Table;", true)
  | 4 => ("IsHeIn$House", "signs", "LIsHeIn$Table;", true)
  | 5 => ("IsHeIn$House", "shifts", "LIsHeIn$Table;", true)
  | 6 => ("IsHeIn$House", "rooms", "LIsHeIn$Table;", true)
  | 7 => ("IsHeIn$House", "callers", "LIsHeIn$Table;", true)
  | 8 => ("IsHeIn$House", "pear", "I", false)
  | 9 => ("IsHeIn$House", "rain", "I", false)
  | 10 => ("IsHeIn$House", "hour", "I", false)
  | _ => ("IsHeIn$House", "draws", "I", false)
def tyX2 : Nat → FieldType := fun k => match k with
  | 0 => .object "IsHeIn$Table"
  | 1 => .object "IsHeIn$Table"
  | 2 => .object "IsHeIn$Table"
  | 3 => .object "IsHeIn$Table"
  | 4 => .object "IsHeIn$Table"
  | 5 => .object "IsHeIn$Table"
  | 6 => .object "IsHeIn$Table"
  | 7 => .object "IsHeIn$Table"
  | 8 => .int
  | 9 => .int
  | 10 => .int
  | _ => .int
theorem mk_ncX2 : ∀ a, a < 12 → ∀ b, b < 12 → a ≠ b → mk_code (TX2 a).2.1 ≠ mk_code (TX2 b).2.1 := by decide +kernel
theorem nmX2 : ∀ a, a < 12 → ∀ b, b < 12 → a ≠ b → (TX2 a).2.1 ≠ (TX2 b).2.1 := fun a ha b hb hn he => mk_ncX2 a ha b hb hn (congrArg mk_code he)
theorem tyX2_ok : ∀ k, k < 12 → parseFieldDescriptor (TX2 k).2.2.1 = some (tyX2 k) := by decide +kernel
def RX3 : String := "IsHeIn$Law"
def TX3 : u_T := fun k => match k with
  | 0 => ("IsHeIn$Law", "house", "LIsHeIn$House;", true)
  | 1 => ("IsHeIn$Law", "known", "[I", true)
  | _ => ("IsHeIn$Law", "stack", "[I", true)
def tyX3 : Nat → FieldType := fun k => match k with
  | 0 => .object "IsHeIn$House"
  | 1 => .array .int
  | _ => .array .int
theorem mk_ncX3 : ∀ a, a < 3 → ∀ b, b < 3 → a ≠ b → mk_code (TX3 a).2.1 ≠ mk_code (TX3 b).2.1 := by decide +kernel
theorem nmX3 : ∀ a, a < 3 → ∀ b, b < 3 → a ≠ b → (TX3 a).2.1 ≠ (TX3 b).2.1 := fun a ha b hb hn he => mk_ncX3 a ha b hb hn (congrArg mk_code he)
theorem tyX3_ok : ∀ k, k < 3 → parseFieldDescriptor (TX3 k).2.2.1 = some (tyX3 k) := by decide +kernel
def RX4 : String := "IsHeIn$Moment"
def TX4 : u_T := fun k => match k with
  | 0 => ("IsHeIn$Moment", "guests", "LIsHeIn$Table;", true)
  | 1 => ("IsHeIn$Moment", "lines", "I", false)
  | 2 => ("IsHeIn$Moment", "hour", "I", false)
  | _ => ("IsHeIn$Moment", "draws", "I", false)
def tyX4 : Nat → FieldType := fun k => match k with
  | 0 => .object "IsHeIn$Table"
  | 1 => .int
  | 2 => .int
  | _ => .int
theorem mk_ncX4 : ∀ a, a < 4 → ∀ b, b < 4 → a ≠ b → mk_code (TX4 a).2.1 ≠ mk_code (TX4 b).2.1 := by decide +kernel
theorem nmX4 : ∀ a, a < 4 → ∀ b, b < 4 → a ≠ b → (TX4 a).2.1 ≠ (TX4 b).2.1 := fun a ha b hb hn he => mk_ncX4 a ha b hb hn (congrArg mk_code he)
theorem tyX4_ok : ∀ k, k < 4 → parseFieldDescriptor (TX4 k).2.2.1 = some (tyX4 k) := by decide +kernel
def RX5 : String := "IsHeIn$Past"
def TX5 : u_T := fun k => match k with
  | 0 => ("IsHeIn$Past", "moments", "[LIsHeIn$Moment;", true)
  | 1 => ("IsHeIn$Past", "count", "I", false)
  | _ => ("IsHeIn$Past", "top", "I", false)
def tyX5 : Nat → FieldType := fun k => match k with
  | 0 => .array (.object "IsHeIn$Moment")
  | 1 => .int
  | _ => .int
theorem mk_ncX5 : ∀ a, a < 3 → ∀ b, b < 3 → a ≠ b → mk_code (TX5 a).2.1 ≠ mk_code (TX5 b).2.1 := by decide +kernel
theorem nmX5 : ∀ a, a < 3 → ∀ b, b < 3 → a ≠ b → (TX5 a).2.1 ≠ (TX5 b).2.1 := fun a ha b hb hn he => mk_ncX5 a ha b hb hn (congrArg mk_code he)
theorem tyX5_ok : ∀ k, k < 3 → parseFieldDescriptor (TX5 k).2.2.1 = some (tyX5 k) := by decide +kernel
def RX6 : String := "IsHeIn$Porter"
def TX6 : u_T := fun k => match k with
  | 0 => ("IsHeIn$Porter", "house", "LIsHeIn$House;", true)
  | 1 => ("IsHeIn$Porter", "law", "LIsHeIn$Law;", true)
  | _ => ("IsHeIn$Porter", "told", "[I", true)
def tyX6 : Nat → FieldType := fun k => match k with
  | 0 => .object "IsHeIn$House"
  | 1 => .object "IsHeIn$Law"
  | _ => .array .int
theorem mk_ncX6 : ∀ a, a < 3 → ∀ b, b < 3 → a ≠ b → mk_code (TX6 a).2.1 ≠ mk_code (TX6 b).2.1 := by decide +kernel
theorem nmX6 : ∀ a, a < 3 → ∀ b, b < 3 → a ≠ b → (TX6 a).2.1 ≠ (TX6 b).2.1 := fun a ha b hb hn he => mk_ncX6 a ha b hb hn (congrArg mk_code he)
theorem tyX6_ok : ∀ k, k < 3 → parseFieldDescriptor (TX6 k).2.2.1 = some (tyX6 k) := by decide +kernel
def RX7 : String := "IsHeIn$Reader"
def TX7 : u_T := fun k => match k with
  | 0 => ("IsHeIn$Reader", "laws", "LIsHeIn$Table;", true)
  | 1 => ("IsHeIn$Reader", "code", "LIsHeIn$Table;", true)
  | 2 => ("IsHeIn$Reader", "signs", "LIsHeIn$Table;", true)
  | 3 => ("IsHeIn$Reader", "shifts", "LIsHeIn$Table;", true)
  | 4 => ("IsHeIn$Reader", "tape", "[I", true)
  | 5 => ("IsHeIn$Reader", "tokens", "LIsHeIn$Table;", true)
  | 6 => ("IsHeIn$Reader", "waiting", "[I", true)
  | 7 => ("IsHeIn$Reader", "waitingCount", "I", false)
  | 8 => ("IsHeIn$Reader", "openCount", "I", false)
  | 9 => ("IsHeIn$Reader", "length", "I", false)
  | 10 => ("IsHeIn$Reader", "fault", "I", false)
  | 11 => ("IsHeIn$Reader", "faultPlace", "I", false)
  | 12 => ("IsHeIn$Reader", "token", "I", false)
  | 13 => ("IsHeIn$Reader", "place", "I", false)
  | 14 => ("IsHeIn$Reader", "kind", "I", false)
  | 15 => ("IsHeIn$Reader", "value", "I", false)
  | _ => ("IsHeIn$Reader", "start", "I", false)
def tyX7 : Nat → FieldType := fun k => match k with
  | 0 => .object "IsHeIn$Table"
  | 1 => .object "IsHeIn$Table"
  | 2 => .object "IsHeIn$Table"
  | 3 => .object "IsHeIn$Table"
  | 4 => .array .int
  | 5 => .object "IsHeIn$Table"
  | 6 => .array .int
  | 7 => .int
  | 8 => .int
  | 9 => .int
  | 10 => .int
  | 11 => .int
  | 12 => .int
  | 13 => .int
  | 14 => .int
  | 15 => .int
  | _ => .int
theorem mk_ncX7 : ∀ a, a < 17 → ∀ b, b < 17 → a ≠ b → mk_code (TX7 a).2.1 ≠ mk_code (TX7 b).2.1 := by decide +kernel
theorem nmX7 : ∀ a, a < 17 → ∀ b, b < 17 → a ≠ b → (TX7 a).2.1 ≠ (TX7 b).2.1 := fun a ha b hb hn he => mk_ncX7 a ha b hb hn (congrArg mk_code he)
theorem tyX7_ok : ∀ k, k < 17 → parseFieldDescriptor (TX7 k).2.2.1 = some (tyX7 k) := by decide +kernel
def RX8 : String := "IsHeIn$Records"
def TX8 : u_T := fun k => match k with
  | _ => ("IsHeIn$Records", "house", "LIsHeIn$House;", true)
def tyX8 : Nat → FieldType := fun k => match k with
  | _ => .object "IsHeIn$House"
theorem mk_ncX8 : ∀ a, a < 1 → ∀ b, b < 1 → a ≠ b → mk_code (TX8 a).2.1 ≠ mk_code (TX8 b).2.1 := by decide +kernel
theorem nmX8 : ∀ a, a < 1 → ∀ b, b < 1 → a ≠ b → (TX8 a).2.1 ≠ (TX8 b).2.1 := fun a ha b hb hn he => mk_ncX8 a ha b hb hn (congrArg mk_code he)
theorem tyX8_ok : ∀ k, k < 1 → parseFieldDescriptor (TX8 k).2.2.1 = some (tyX8 k) := by decide +kernel
def RX9 : String := "IsHeIn$Rounds"
def TX9 : u_T := fun k => match k with
  | 0 => ("IsHeIn$Rounds", "house", "LIsHeIn$House;", true)
  | 1 => ("IsHeIn$Rounds", "belief", "LIsHeIn$Belief;", true)
  | 2 => ("IsHeIn$Rounds", "sures", "[I", true)
  | 3 => ("IsHeIn$Rounds", "onFloor", "[I", true)
  | 4 => ("IsHeIn$Rounds", "row", "[I", true)
  | 5 => ("IsHeIn$Rounds", "bestRow", "[I", true)
  | 6 => ("IsHeIn$Rounds", "bestLength", "I", false)
  | _ => ("IsHeIn$Rounds", "mostFound", "J", false)
def tyX9 : Nat → FieldType := fun k => match k with
  | 0 => .object "IsHeIn$House"
  | 1 => .object "IsHeIn$Belief"
  | 2 => .array .int
  | 3 => .array .int
  | 4 => .array .int
  | 5 => .array .int
  | 6 => .int
  | _ => .long
theorem mk_ncX9 : ∀ a, a < 8 → ∀ b, b < 8 → a ≠ b → mk_code (TX9 a).2.1 ≠ mk_code (TX9 b).2.1 := by decide +kernel
theorem nmX9 : ∀ a, a < 8 → ∀ b, b < 8 → a ≠ b → (TX9 a).2.1 ≠ (TX9 b).2.1 := fun a ha b hb hn he => mk_ncX9 a ha b hb hn (congrArg mk_code he)
theorem tyX9_ok : ∀ k, k < 8 → parseFieldDescriptor (TX9 k).2.2.1 = some (tyX9 k) := by decide +kernel
def RX10 : String := "IsHeIn$Table"
def TX10 : u_T := fun k => match k with
  | 0 => ("IsHeIn$Table", "most", "I", true)
  | 1 => ("IsHeIn$Table", "width", "I", true)
  | 2 => ("IsHeIn$Table", "cells", "[I", true)
  | _ => ("IsHeIn$Table", "rows", "I", false)
def tyX10 : Nat → FieldType := fun k => match k with
  | 0 => .int
  | 1 => .int
  | 2 => .array .int
  | _ => .int
theorem mk_ncX10 : ∀ a, a < 4 → ∀ b, b < 4 → a ≠ b → mk_code (TX10 a).2.1 ≠ mk_code (TX10 b).2.1 := by decide +kernel
theorem nmX10 : ∀ a, a < 4 → ∀ b, b < 4 → a ≠ b → (TX10 a).2.1 ≠ (TX10 b).2.1 := fun a ha b hb hn he => mk_ncX10 a ha b hb hn (congrArg mk_code he)
theorem tyX10_ok : ∀ k, k < 4 → parseFieldDescriptor (TX10 k).2.2.1 = some (tyX10 k) := by decide +kernel
def RX11 : String := "IsHeIn"
def TX11 : u_T := fun k => match k with
  | 0 => ("IsHeIn", "house", "LIsHeIn$House;", true)
  | 1 => ("IsHeIn", "kept", "LIsHeIn$House;", true)
  | 2 => ("IsHeIn", "isKept", "Z", false)
  | 3 => ("IsHeIn", "past", "LIsHeIn$Past;", true)
  | 4 => ("IsHeIn", "reader", "LIsHeIn$Reader;", true)
  | 5 => ("IsHeIn", "law", "LIsHeIn$Law;", true)
  | 6 => ("IsHeIn", "porter", "LIsHeIn$Porter;", true)
  | 7 => ("IsHeIn", "belief", "LIsHeIn$Belief;", true)
  | 8 => ("IsHeIn", "foresight", "LIsHeIn$Foresight;", true)
  | 9 => ("IsHeIn", "records", "LIsHeIn$Records;", true)
  | _ => ("IsHeIn", "rounds", "LIsHeIn$Rounds;", true)
def tyX11 : Nat → FieldType := fun k => match k with
  | 0 => .object "IsHeIn$House"
  | 1 => .object "IsHeIn$House"
  | 2 => .boolean
  | 3 => .object "IsHeIn$Past"
  | 4 => .object "IsHeIn$Reader"
  | 5 => .object "IsHeIn$Law"
  | 6 => .object "IsHeIn$Porter"
  | 7 => .object "IsHeIn$Belief"
  | 8 => .object "IsHeIn$Foresight"
  | 9 => .object "IsHeIn$Records"
  | _ => .object "IsHeIn$Rounds"
theorem mk_ncX11 : ∀ a, a < 11 → ∀ b, b < 11 → a ≠ b → mk_code (TX11 a).2.1 ≠ mk_code (TX11 b).2.1 := by decide +kernel
theorem nmX11 : ∀ a, a < 11 → ∀ b, b < 11 → a ≠ b → (TX11 a).2.1 ≠ (TX11 b).2.1 := fun a ha b hb hn he => mk_ncX11 a ha b hb hn (congrArg mk_code he)
theorem tyX11_ok : ∀ k, k < 11 → parseFieldDescriptor (TX11 k).2.2.1 = some (tyX11 k) := by decide +kernel
def RX12 : String := "IsHeInModel"
def TX12 : u_T := fun k => match k with
  | 0 => ("IsHeInModel", "w", "[I", true)
  | 1 => ("IsHeInModel", "kept", "[I", true)
  | 2 => ("IsHeInModel", "back", "[I", true)
  | 3 => ("IsHeInModel", "backMany", "I", false)
  | 4 => ("IsHeInModel", "hasImage", "Z", false)
  | 5 => ("IsHeInModel", "freshLine", "[I", true)
  | 6 => ("IsHeInModel", "freshStep", "[I", true)
  | 7 => ("IsHeInModel", "freshRow", "[I", true)
  | 8 => ("IsHeInModel", "tape", "[I", true)
  | 9 => ("IsHeInModel", "pile", "[I", true)
  | 10 => ("IsHeInModel", "facts", "[I", true)
  | 11 => ("IsHeInModel", "reading", "I", false)
  | 12 => ("IsHeInModel", "lines", "I", false)
  | 13 => ("IsHeInModel", "steps", "I", false)
  | 14 => ("IsHeInModel", "rows", "I", false)
  | 15 => ("IsHeInModel", "taped", "I", false)
  | 16 => ("IsHeInModel", "at", "I", false)
  | 17 => ("IsHeInModel", "token", "I", false)
  | 18 => ("IsHeInModel", "tokenAt", "I", false)
  | 19 => ("IsHeInModel", "value", "I", false)
  | 20 => ("IsHeInModel", "wrong", "I", false)
  | 21 => ("IsHeInModel", "wrongAt", "I", false)
  | 22 => ("IsHeInModel", "faultKind", "I", false)
  | 23 => ("IsHeInModel", "depth", "I", false)
  | 24 => ("IsHeInModel", "faultPlace", "I", false)
  | 25 => ("IsHeInModel", "numbered", "I", false)
  | 26 => ("IsHeInModel", "chance", "[J", true)
  | 27 => ("IsHeInModel", "others", "[J", true)
  | 28 => ("IsHeInModel", "onFloor", "[J", true)
  | 29 => ("IsHeInModel", "way", "[I", true)
  | 30 => ("IsHeInModel", "bestWay", "[I", true)
  | 31 => ("IsHeInModel", "mostFound", "J", false)
  | 32 => ("IsHeInModel", "bestLong", "I", false)
  | 33 => ("IsHeInModel", "seenAt", "[I", true)
  | _ => ("IsHeInModel", "mostFrom", "[I", true)
def tyX12 : Nat → FieldType := fun k => match k with
  | 0 => .array .int
  | 1 => .array .int
  | 2 => .array .int
  | 3 => .int
  | 4 => .boolean
  | 5 => .array .int
  | 6 => .array .int
  | 7 => .array .int
  | 8 => .array .int
  | 9 => .array .int
  | 10 => .array .int
  | 11 => .int
  | 12 => .int
  | 13 => .int
  | 14 => .int
  | 15 => .int
  | 16 => .int
  | 17 => .int
  | 18 => .int
  | 19 => .int
  | 20 => .int
  | 21 => .int
  | 22 => .int
  | 23 => .int
  | 24 => .int
  | 25 => .int
  | 26 => .array .long
  | 27 => .array .long
  | 28 => .array .long
  | 29 => .array .int
  | 30 => .array .int
  | 31 => .long
  | 32 => .int
  | 33 => .array .int
  | _ => .array .int
theorem mk_ncX12 : ∀ a, a < 35 → ∀ b, b < 35 → a ≠ b → mk_code (TX12 a).2.1 ≠ mk_code (TX12 b).2.1 := by decide +kernel
theorem nmX12 : ∀ a, a < 35 → ∀ b, b < 35 → a ≠ b → (TX12 a).2.1 ≠ (TX12 b).2.1 := fun a ha b hb hn he => mk_ncX12 a ha b hb hn (congrArg mk_code he)
theorem tyX12_ok : ∀ k, k < 35 → parseFieldDescriptor (TX12 k).2.2.1 = some (tyX12 k) := by decide +kernel
/-- the classes whose objects the world holds -/
def m_cl : List vw_C := [(RX0, TX0, 5), (RX1, TX1, 4), (RX2, TX2, 12), (RX3, TX3, 3), (RX4, TX4, 4), (RX5, TX5, 3), (RX6, TX6, 3), (RX7, TX7, 17), (RX8, TX8, 1), (RX9, TX9, 8), (RX10, TX10, 4), (RX11, TX11, 11), (RX12, TX12, 35)]
def m_ty : Nat → Nat → FieldType := fun c => match c with
  | 0 => tyX0
  | 1 => tyX1
  | 2 => tyX2
  | 3 => tyX3
  | 4 => tyX4
  | 5 => tyX5
  | 6 => tyX6
  | 7 => tyX7
  | 8 => tyX8
  | 9 => tyX9
  | 10 => tyX10
  | 11 => tyX11
  | _ => tyX12
def m_df : Nat → List Value := fun c => match c with
  | 0 => [.null, .null, .null, .null, .null]
  | 1 => [.null, .null, .null, .null]
  | 2 => [.null, .null, .null, .null, .null, .null, .null, .null, .int 0, .int 0, .int 0, .int 0]
  | 3 => [.null, .null, .null]
  | 4 => [.null, .int 0, .int 0, .int 0]
  | 5 => [.null, .int 0, .int 0]
  | 6 => [.null, .null, .null]
  | 7 => [.null, .null, .null, .null, .null, .null, .null, .int 0, .int 0, .int 0, .int 0, .int 0, .int 0, .int 0, .int 0, .int 0, .int 0]
  | 8 => [.null]
  | 9 => [.null, .null, .null, .null, .null, .null, .int 0, .long 0]
  | 10 => [.int 0, .int 0, .null, .int 0]
  | 11 => [.null, .null, .int 0, .null, .null, .null, .null, .null, .null, .null, .null]
  | _ => [.null, .null, .null, .int 0, .int 0, .null, .null, .null, .null, .null, .null, .int 0, .int 0, .int 0, .int 0, .int 0, .int 0, .int 0, .int 0, .int 0, .int 0, .int 0, .int 0, .int 0, .int 0, .int 0, .null, .null, .null, .null, .null, .long 0, .int 0, .null, .null]
def m_nest : List Cond := [(Jvm.Cond.methodLinkNest "IsHeIn" (11 : Nat) ({ cls := "IsHeIn$House", name := "<init>", desc := "()V" } : Jvm.MethodName) "IsHeIn"), (Jvm.Cond.methodLinkNest "IsHeIn$Past" (24 : Nat) ({ cls := "IsHeIn$Moment", name := "<init>", desc := "()V" } : Jvm.MethodName) "IsHeIn"), (Jvm.Cond.methodLinkNest "IsHeIn" (32 : Nat) ({ cls := "IsHeIn$Reader", name := "<init>", desc := "()V" } : Jvm.MethodName) "IsHeIn"), (Jvm.Cond.methodLinkNest "IsHeIn$Law" (22 : Nat) ({ cls := "IsHeIn", name := "put", desc := "([III)V" } : Jvm.MethodName) "IsHeIn"), (Jvm.Cond.methodLinkNest "IsHeIn$Law" (69 : Nat) ({ cls := "IsHeIn", name := "cell", desc := "([II)I" } : Jvm.MethodName) "IsHeIn"), (Jvm.Cond.fieldLinkNest "IsHeIn$Law" (73 : Nat) "IsHeIn" "UNTOLD" "[I" "IsHeIn"), (Jvm.Cond.methodLinkNest "IsHeIn$Porter" (78 : Nat) ({ cls := "IsHeIn", name := "cell", desc := "([II)I" } : Jvm.MethodName) "IsHeIn"), (Jvm.Cond.methodLinkNest "IsHeIn$Reader" (70 : Nat) ({ cls := "IsHeIn", name := "put", desc := "([III)V" } : Jvm.MethodName) "IsHeIn"), (Jvm.Cond.methodLinkNest "IsHeIn$Reader" (112 : Nat) ({ cls := "IsHeIn", name := "cell", desc := "([II)I" } : Jvm.MethodName) "IsHeIn"), (Jvm.Cond.methodLinkNest "IsHeIn$Reader" (173 : Nat) ({ cls := "IsHeIn", name := "isWithin", desc := "(III)Z" } : Jvm.MethodName) "IsHeIn"), (Jvm.Cond.methodLinkNest "IsHeIn$Belief" (64 : Nat) ({ cls := "IsHeIn", name := "cell", desc := "([II)I" } : Jvm.MethodName) "IsHeIn"), (Jvm.Cond.methodLinkNest "IsHeIn$Belief" (96 : Nat) ({ cls := "IsHeIn", name := "put", desc := "([III)V" } : Jvm.MethodName) "IsHeIn"), (Jvm.Cond.methodLinkNest "IsHeIn$Belief" (110 : Nat) ({ cls := "IsHeIn", name := "share", desc := "(II)I" } : Jvm.MethodName) "IsHeIn"), (Jvm.Cond.methodLinkNest "IsHeIn$Rounds" (61 : Nat) ({ cls := "IsHeIn", name := "put", desc := "([III)V" } : Jvm.MethodName) "IsHeIn"), (Jvm.Cond.methodLinkNest "IsHeIn$Rounds" (68 : Nat) ({ cls := "IsHeIn", name := "cell", desc := "([II)I" } : Jvm.MethodName) "IsHeIn")]
/-- the String constants: owner, place in its pool, text -/
def m_str : List (String × Nat × String) := [("IsHeIn$Reader", 145, "go come carry stray front prior guest floor age clock day pear rain board since when or and not sign in out clerk from for at "), ("IsHeInModel", 135, "when"), ("IsHeInModel", 137, "or"), ("IsHeInModel", 139, "and"), ("IsHeInModel", 141, "not"), ("IsHeInModel", 114, "guest"), ("IsHeInModel", 116, "floor"), ("IsHeInModel", 118, "age"), ("IsHeInModel", 120, "clock"), ("IsHeInModel", 122, "day"), ("IsHeInModel", 124, "pear"), ("IsHeInModel", 126, "rain"), ("IsHeInModel", 128, "board"), ("IsHeInModel", 130, "since"), ("IsHeInModel", 98, "go"), ("IsHeInModel", 104, "come"), ("IsHeInModel", 106, "carry"), ("IsHeInModel", 108, "stray"), ("IsHeInModel", 110, "front"), ("IsHeInModel", 112, "prior"), ("IsHeInModel", 146, "sign"), ("IsHeInModel", 148, "in"), ("IsHeInModel", 150, "out"), ("IsHeInModel", 152, "clerk"), ("IsHeInModel", 154, "from"), ("IsHeInModel", 156, "for"), ("IsHeInModel", 158, "at")]
def m_sb : List (List Int32) := [[103, 111, 32, 99, 111, 109, 101, 32, 99, 97, 114, 114, 121, 32, 115, 116, 114, 97, 121, 32, 102, 114, 111, 110, 116, 32, 112, 114, 105, 111, 114, 32, 103, 117, 101, 115, 116, 32, 102, 108, 111, 111, 114, 32, 97, 103, 101, 32, 99, 108, 111, 99, 107, 32, 100, 97, 121, 32, 112, 101, 97, 114, 32, 114, 97, 105, 110, 32, 98, 111, 97, 114, 100, 32, 115, 105, 110, 99, 101, 32, 119, 104, 101, 110, 32, 111, 114, 32, 97, 110, 100, 32, 110, 111, 116, 32, 115, 105, 103, 110, 32, 105, 110, 32, 111, 117, 116, 32, 99, 108, 101, 114, 107, 32, 102, 114, 111, 109, 32, 102, 111, 114, 32, 97, 116, 32], [119, 104, 101, 110], [111, 114], [97, 110, 100], [110, 111, 116], [103, 117, 101, 115, 116], [102, 108, 111, 111, 114], [97, 103, 101], [99, 108, 111, 99, 107], [100, 97, 121], [112, 101, 97, 114], [114, 97, 105, 110], [98, 111, 97, 114, 100], [115, 105, 110, 99, 101], [103, 111], [99, 111, 109, 101], [99, 97, 114, 114, 121], [115, 116, 114, 97, 121], [102, 114, 111, 110, 116], [112, 114, 105, 111, 114], [115, 105, 103, 110], [105, 110], [111, 117, 116], [99, 108, 101, 114, 107], [102, 114, 111, 109], [102, 111, 114], [97, 116]]
def mk_layp : List (List Nat) := [[413, 415, 417, 419, 421], [436, 438, 440, 442], [239, 241, 243, 245, 247, 249, 251, 253, 255, 257, 259, 261], [379, 381, 383], [283, 285, 287, 289], [296, 298, 300], [395, 397, 399], [335, 337, 339, 341, 343, 345, 347, 349, 351, 353, 355, 357, 359, 361, 363, 365, 367], [452], [472, 474, 476, 478, 480, 482, 484, 486], [184, 186, 188, 190], [500, 502, 504, 506, 508, 510, 512, 514, 516, 518, 520], [1416, 1418, 1420, 1422, 1424, 1426, 1428, 1430, 1432, 1434, 1436, 1438, 1440, 1442, 1444, 1446, 1448, 1450, 1452, 1454, 1456, 1458, 1460, 1462, 1464, 1466, 1468, 1470, 1472, 1474, 1476, 1478, 1480, 1482, 1484]]
def mk_strp : List Nat := [757, 1542, 1549, 1550, 1551, 1556, 1557, 1558, 1559, 1560, 1561, 1562, 1563, 1564, 1569, 1570, 1571, 1572, 1573, 1574, 1579, 1580, 1581, 1586, 1587, 1588, 1589]
def mk_inp : List Nat := [403, 425, 156, 371, 272, 265, 387, 304, 446, 456, 162, 148, 1376]
def mk_nep : List Nat := [157, 273, 305, 646, 662, 670, 687, 717, 742, 834, 978, 1114, 1139, 1326, 1331]
