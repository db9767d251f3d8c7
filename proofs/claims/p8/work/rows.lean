section
-- ===== PART A: goes FIRST, ahead of the names: the tables' words, and 'selects' of the private methods out of them =====
/-- a private method of a class that the tables say can be made, by its rows of tables_1 -/
def lw_okq (q : MethodName × Nat) : Prop := (q.1.cls ≠ "java/lang/invoke/MethodHandle" ∧ q.1.cls ≠ "java/lang/invoke/VarHandle") ∧ Cond.instantiable q.1.cls q.2 ∈ tables_1 ∧ Cond.privateMethod q.1 ∈ tables_1 ∧ Cond.instanceMethod q.1 ∈ tables_1
theorem lw_p0 : lw_okq (⟨"IsHeIn", "canSet", "(III)Z"⟩, 11) := ⟨⟨by decide +kernel, by decide +kernel⟩, List.mem_of_getElem? (i := 21) (by decide +kernel), List.mem_of_getElem? (i := 437) (by decide +kernel), List.mem_of_getElem? (i := 438) (by decide +kernel)⟩
theorem lw_p1 : lw_okq (⟨"IsHeIn$Past", "momentAt", "(I)LIsHeIn$Moment;"⟩, 3) := ⟨⟨by decide +kernel, by decide +kernel⟩, List.mem_of_getElem? (i := 138) (by decide +kernel), List.mem_of_getElem? (i := 474) (by decide +kernel), List.mem_of_getElem? (i := 475) (by decide +kernel)⟩
theorem lw_p2 : lw_okq (⟨"IsHeIn$Porter", "ask", "(I)V"⟩, 3) := ⟨⟨by decide +kernel, by decide +kernel⟩, List.mem_of_getElem? (i := 260) (by decide +kernel), List.mem_of_getElem? (i := 512) (by decide +kernel), List.mem_of_getElem? (i := 513) (by decide +kernel)⟩
theorem lw_p3 : lw_okq (⟨"IsHeIn$Law", "valueOf", "(II)I"⟩, 3) := ⟨⟨by decide +kernel, by decide +kernel⟩, List.mem_of_getElem? (i := 244) (by decide +kernel), List.mem_of_getElem? (i := 532) (by decide +kernel), List.mem_of_getElem? (i := 533) (by decide +kernel)⟩
theorem lw_p4 : lw_okq (⟨"IsHeIn$Porter", "comes", "(I)Z"⟩, 3) := ⟨⟨by decide +kernel, by decide +kernel⟩, List.mem_of_getElem? (i := 260) (by decide +kernel), List.mem_of_getElem? (i := 547) (by decide +kernel), List.mem_of_getElem? (i := 548) (by decide +kernel)⟩
theorem lw_p5 : lw_okq (⟨"IsHeIn$Porter", "isDrawn", "(I)Z"⟩, 3) := ⟨⟨by decide +kernel, by decide +kernel⟩, List.mem_of_getElem? (i := 260) (by decide +kernel), List.mem_of_getElem? (i := 551) (by decide +kernel), List.mem_of_getElem? (i := 552) (by decide +kernel)⟩
theorem lw_p6 : lw_okq (⟨"IsHeIn$Porter", "goes", "(I)Z"⟩, 3) := ⟨⟨by decide +kernel, by decide +kernel⟩, List.mem_of_getElem? (i := 260) (by decide +kernel), List.mem_of_getElem? (i := 568) (by decide +kernel), List.mem_of_getElem? (i := 569) (by decide +kernel)⟩
theorem lw_p7 : lw_okq (⟨"IsHeIn$Porter", "hangKey", "(I)V"⟩, 3) := ⟨⟨by decide +kernel, by decide +kernel⟩, List.mem_of_getElem? (i := 260) (by decide +kernel), List.mem_of_getElem? (i := 572) (by decide +kernel), List.mem_of_getElem? (i := 573) (by decide +kernel)⟩
theorem lw_p8 : lw_okq (⟨"IsHeIn$Reader", "splitTape", "()V"⟩, 17) := ⟨⟨by decide +kernel, by decide +kernel⟩, List.mem_of_getElem? (i := 177) (by decide +kernel), List.mem_of_getElem? (i := 604) (by decide +kernel), List.mem_of_getElem? (i := 605) (by decide +kernel)⟩
theorem lw_p9 : lw_okq (⟨"IsHeIn$Reader", "skipBlanks", "()Z"⟩, 17) := ⟨⟨by decide +kernel, by decide +kernel⟩, List.mem_of_getElem? (i := 177) (by decide +kernel), List.mem_of_getElem? (i := 612) (by decide +kernel), List.mem_of_getElem? (i := 613) (by decide +kernel)⟩
theorem lw_p10 : lw_okq (⟨"IsHeIn$Reader", "splitWord", "()V"⟩, 17) := ⟨⟨by decide +kernel, by decide +kernel⟩, List.mem_of_getElem? (i := 177) (by decide +kernel), List.mem_of_getElem? (i := 623) (by decide +kernel), List.mem_of_getElem? (i := 624) (by decide +kernel)⟩
theorem lw_p11 : lw_okq (⟨"IsHeIn$Reader", "wordNumber", "(I)I"⟩, 17) := ⟨⟨by decide +kernel, by decide +kernel⟩, List.mem_of_getElem? (i := 177) (by decide +kernel), List.mem_of_getElem? (i := 627) (by decide +kernel), List.mem_of_getElem? (i := 628) (by decide +kernel)⟩
theorem lw_p12 : lw_okq (⟨"IsHeIn$Reader", "isWord", "(III)Z"⟩, 17) := ⟨⟨by decide +kernel, by decide +kernel⟩, List.mem_of_getElem? (i := 177) (by decide +kernel), List.mem_of_getElem? (i := 680) (by decide +kernel), List.mem_of_getElem? (i := 681) (by decide +kernel)⟩
theorem lw_p13 : lw_okq (⟨"IsHeIn$Reader", "addToken", "(III)V"⟩, 17) := ⟨⟨by decide +kernel, by decide +kernel⟩, List.mem_of_getElem? (i := 177) (by decide +kernel), List.mem_of_getElem? (i := 685) (by decide +kernel), List.mem_of_getElem? (i := 686) (by decide +kernel)⟩
theorem lw_p14 : lw_okq (⟨"IsHeIn$Reader", "splitNumber", "()V"⟩, 17) := ⟨⟨by decide +kernel, by decide +kernel⟩, List.mem_of_getElem? (i := 177) (by decide +kernel), List.mem_of_getElem? (i := 694) (by decide +kernel), List.mem_of_getElem? (i := 695) (by decide +kernel)⟩
theorem lw_p15 : lw_okq (⟨"IsHeIn$Reader", "stepOn", "()V"⟩, 17) := ⟨⟨by decide +kernel, by decide +kernel⟩, List.mem_of_getElem? (i := 177) (by decide +kernel), List.mem_of_getElem? (i := 698) (by decide +kernel), List.mem_of_getElem? (i := 699) (by decide +kernel)⟩
def lw_privs_1 : List (MethodName × Nat) := [(⟨"IsHeIn", "canSet", "(III)Z"⟩, 11), (⟨"IsHeIn$Past", "momentAt", "(I)LIsHeIn$Moment;"⟩, 3), (⟨"IsHeIn$Porter", "ask", "(I)V"⟩, 3), (⟨"IsHeIn$Law", "valueOf", "(II)I"⟩, 3), (⟨"IsHeIn$Porter", "comes", "(I)Z"⟩, 3), (⟨"IsHeIn$Porter", "isDrawn", "(I)Z"⟩, 3), (⟨"IsHeIn$Porter", "goes", "(I)Z"⟩, 3), (⟨"IsHeIn$Porter", "hangKey", "(I)V"⟩, 3), (⟨"IsHeIn$Reader", "splitTape", "()V"⟩, 17), (⟨"IsHeIn$Reader", "skipBlanks", "()Z"⟩, 17), (⟨"IsHeIn$Reader", "splitWord", "()V"⟩, 17), (⟨"IsHeIn$Reader", "wordNumber", "(I)I"⟩, 17), (⟨"IsHeIn$Reader", "isWord", "(III)Z"⟩, 17), (⟨"IsHeIn$Reader", "addToken", "(III)V"⟩, 17), (⟨"IsHeIn$Reader", "splitNumber", "()V"⟩, 17), (⟨"IsHeIn$Reader", "stepOn", "()V"⟩, 17)]
theorem lw_r1 : ∀ q ∈ lw_privs_1, lw_okq q := List.forall_mem_cons.mpr ⟨lw_p0, List.forall_mem_cons.mpr ⟨lw_p1, List.forall_mem_cons.mpr ⟨lw_p2, List.forall_mem_cons.mpr ⟨lw_p3, List.forall_mem_cons.mpr ⟨lw_p4, List.forall_mem_cons.mpr ⟨lw_p5, List.forall_mem_cons.mpr ⟨lw_p6, List.forall_mem_cons.mpr ⟨lw_p7, List.forall_mem_cons.mpr ⟨lw_p8, List.forall_mem_cons.mpr ⟨lw_p9, List.forall_mem_cons.mpr ⟨lw_p10, List.forall_mem_cons.mpr ⟨lw_p11, List.forall_mem_cons.mpr ⟨lw_p12, List.forall_mem_cons.mpr ⟨lw_p13, List.forall_mem_cons.mpr ⟨lw_p14, List.forall_mem_cons.mpr ⟨lw_p15, fun _ h => absurd h List.not_mem_nil⟩⟩⟩⟩⟩⟩⟩⟩⟩⟩⟩⟩⟩⟩⟩⟩
theorem lw_p16 : lw_okq (⟨"IsHeIn$Reader", "readLaw", "()Z"⟩, 17) := ⟨⟨by decide +kernel, by decide +kernel⟩, List.mem_of_getElem? (i := 177) (by decide +kernel), List.mem_of_getElem? (i := 704) (by decide +kernel), List.mem_of_getElem? (i := 705) (by decide +kernel)⟩
theorem lw_p17 : lw_okq (⟨"IsHeIn$Reader", "refuse", "(I)Z"⟩, 17) := ⟨⟨by decide +kernel, by decide +kernel⟩, List.mem_of_getElem? (i := 177) (by decide +kernel), List.mem_of_getElem? (i := 709) (by decide +kernel), List.mem_of_getElem? (i := 710) (by decide +kernel)⟩
theorem lw_p18 : lw_okq (⟨"IsHeIn$Reader", "readSum", "()Z"⟩, 17) := ⟨⟨by decide +kernel, by decide +kernel⟩, List.mem_of_getElem? (i := 177) (by decide +kernel), List.mem_of_getElem? (i := 713) (by decide +kernel), List.mem_of_getElem? (i := 714) (by decide +kernel)⟩
theorem lw_p19 : lw_okq (⟨"IsHeIn$Reader", "readUnit", "()Z"⟩, 17) := ⟨⟨by decide +kernel, by decide +kernel⟩, List.mem_of_getElem? (i := 177) (by decide +kernel), List.mem_of_getElem? (i := 717) (by decide +kernel), List.mem_of_getElem? (i := 718) (by decide +kernel)⟩
theorem lw_p20 : lw_okq (⟨"IsHeIn$Reader", "emitIfAny", "(I)V"⟩, 17) := ⟨⟨by decide +kernel, by decide +kernel⟩, List.mem_of_getElem? (i := 177) (by decide +kernel), List.mem_of_getElem? (i := 729) (by decide +kernel), List.mem_of_getElem? (i := 730) (by decide +kernel)⟩
theorem lw_p21 : lw_okq (⟨"IsHeIn$Reader", "readPart", "()Z"⟩, 17) := ⟨⟨by decide +kernel, by decide +kernel⟩, List.mem_of_getElem? (i := 177) (by decide +kernel), List.mem_of_getElem? (i := 733) (by decide +kernel), List.mem_of_getElem? (i := 734) (by decide +kernel)⟩
theorem lw_p22 : lw_okq (⟨"IsHeIn$Reader", "readCondition", "()Z"⟩, 17) := ⟨⟨by decide +kernel, by decide +kernel⟩, List.mem_of_getElem? (i := 177) (by decide +kernel), List.mem_of_getElem? (i := 738) (by decide +kernel), List.mem_of_getElem? (i := 739) (by decide +kernel)⟩
theorem lw_p23 : lw_okq (⟨"IsHeIn$Reader", "readOpenings", "()Z"⟩, 17) := ⟨⟨by decide +kernel, by decide +kernel⟩, List.mem_of_getElem? (i := 177) (by decide +kernel), List.mem_of_getElem? (i := 742) (by decide +kernel), List.mem_of_getElem? (i := 743) (by decide +kernel)⟩
theorem lw_p24 : lw_okq (⟨"IsHeIn$Reader", "hold", "(I)V"⟩, 17) := ⟨⟨by decide +kernel, by decide +kernel⟩, List.mem_of_getElem? (i := 177) (by decide +kernel), List.mem_of_getElem? (i := 746) (by decide +kernel), List.mem_of_getElem? (i := 747) (by decide +kernel)⟩
theorem lw_p25 : lw_okq (⟨"IsHeIn$Reader", "stepOfComparison", "()I"⟩, 17) := ⟨⟨by decide +kernel, by decide +kernel⟩, List.mem_of_getElem? (i := 177) (by decide +kernel), List.mem_of_getElem? (i := 750) (by decide +kernel), List.mem_of_getElem? (i := 751) (by decide +kernel)⟩
theorem lw_p26 : lw_okq (⟨"IsHeIn$Reader", "readClosings", "()V"⟩, 17) := ⟨⟨by decide +kernel, by decide +kernel⟩, List.mem_of_getElem? (i := 177) (by decide +kernel), List.mem_of_getElem? (i := 754) (by decide +kernel), List.mem_of_getElem? (i := 755) (by decide +kernel)⟩
theorem lw_p27 : lw_okq (⟨"IsHeIn$Reader", "closeNots", "()V"⟩, 17) := ⟨⟨by decide +kernel, by decide +kernel⟩, List.mem_of_getElem? (i := 177) (by decide +kernel), List.mem_of_getElem? (i := 758) (by decide +kernel), List.mem_of_getElem? (i := 759) (by decide +kernel)⟩
theorem lw_p28 : lw_okq (⟨"IsHeIn$Reader", "lastWaiting", "()I"⟩, 17) := ⟨⟨by decide +kernel, by decide +kernel⟩, List.mem_of_getElem? (i := 177) (by decide +kernel), List.mem_of_getElem? (i := 762) (by decide +kernel), List.mem_of_getElem? (i := 763) (by decide +kernel)⟩
theorem lw_p29 : lw_okq (⟨"IsHeIn$Reader", "joinWhatWaits", "(Z)V"⟩, 17) := ⟨⟨by decide +kernel, by decide +kernel⟩, List.mem_of_getElem? (i := 177) (by decide +kernel), List.mem_of_getElem? (i := 767) (by decide +kernel), List.mem_of_getElem? (i := 768) (by decide +kernel)⟩
theorem lw_p30 : lw_okq (⟨"IsHeIn$Reader", "pass", "(I)Z"⟩, 17) := ⟨⟨by decide +kernel, by decide +kernel⟩, List.mem_of_getElem? (i := 177) (by decide +kernel), List.mem_of_getElem? (i := 771) (by decide +kernel), List.mem_of_getElem? (i := 772) (by decide +kernel)⟩
theorem lw_p31 : lw_okq (⟨"IsHeIn$Reader", "readSign", "()Z"⟩, 17) := ⟨⟨by decide +kernel, by decide +kernel⟩, List.mem_of_getElem? (i := 177) (by decide +kernel), List.mem_of_getElem? (i := 775) (by decide +kernel), List.mem_of_getElem? (i := 776) (by decide +kernel)⟩
def lw_privs_2 : List (MethodName × Nat) := [(⟨"IsHeIn$Reader", "readLaw", "()Z"⟩, 17), (⟨"IsHeIn$Reader", "refuse", "(I)Z"⟩, 17), (⟨"IsHeIn$Reader", "readSum", "()Z"⟩, 17), (⟨"IsHeIn$Reader", "readUnit", "()Z"⟩, 17), (⟨"IsHeIn$Reader", "emitIfAny", "(I)V"⟩, 17), (⟨"IsHeIn$Reader", "readPart", "()Z"⟩, 17), (⟨"IsHeIn$Reader", "readCondition", "()Z"⟩, 17), (⟨"IsHeIn$Reader", "readOpenings", "()Z"⟩, 17), (⟨"IsHeIn$Reader", "hold", "(I)V"⟩, 17), (⟨"IsHeIn$Reader", "stepOfComparison", "()I"⟩, 17), (⟨"IsHeIn$Reader", "readClosings", "()V"⟩, 17), (⟨"IsHeIn$Reader", "closeNots", "()V"⟩, 17), (⟨"IsHeIn$Reader", "lastWaiting", "()I"⟩, 17), (⟨"IsHeIn$Reader", "joinWhatWaits", "(Z)V"⟩, 17), (⟨"IsHeIn$Reader", "pass", "(I)Z"⟩, 17), (⟨"IsHeIn$Reader", "readSign", "()Z"⟩, 17)]
theorem lw_r2 : ∀ q ∈ lw_privs_2, lw_okq q := List.forall_mem_cons.mpr ⟨lw_p16, List.forall_mem_cons.mpr ⟨lw_p17, List.forall_mem_cons.mpr ⟨lw_p18, List.forall_mem_cons.mpr ⟨lw_p19, List.forall_mem_cons.mpr ⟨lw_p20, List.forall_mem_cons.mpr ⟨lw_p21, List.forall_mem_cons.mpr ⟨lw_p22, List.forall_mem_cons.mpr ⟨lw_p23, List.forall_mem_cons.mpr ⟨lw_p24, List.forall_mem_cons.mpr ⟨lw_p25, List.forall_mem_cons.mpr ⟨lw_p26, List.forall_mem_cons.mpr ⟨lw_p27, List.forall_mem_cons.mpr ⟨lw_p28, List.forall_mem_cons.mpr ⟨lw_p29, List.forall_mem_cons.mpr ⟨lw_p30, List.forall_mem_cons.mpr ⟨lw_p31, fun _ h => absurd h List.not_mem_nil⟩⟩⟩⟩⟩⟩⟩⟩⟩⟩⟩⟩⟩⟩⟩⟩
theorem lw_p32 : lw_okq (⟨"IsHeIn$Reader", "readHead", "(ILIsHeIn$Table;)Z"⟩, 17) := ⟨⟨by decide +kernel, by decide +kernel⟩, List.mem_of_getElem? (i := 177) (by decide +kernel), List.mem_of_getElem? (i := 779) (by decide +kernel), List.mem_of_getElem? (i := 780) (by decide +kernel)⟩
theorem lw_p33 : lw_okq (⟨"IsHeIn$Reader", "readNamed", "(IIILIsHeIn$Table;I)Z"⟩, 17) := ⟨⟨by decide +kernel, by decide +kernel⟩, List.mem_of_getElem? (i := 177) (by decide +kernel), List.mem_of_getElem? (i := 783) (by decide +kernel), List.mem_of_getElem? (i := 784) (by decide +kernel)⟩
theorem lw_p34 : lw_okq (⟨"IsHeIn$Reader", "readShift", "()Z"⟩, 17) := ⟨⟨by decide +kernel, by decide +kernel⟩, List.mem_of_getElem? (i := 177) (by decide +kernel), List.mem_of_getElem? (i := 787) (by decide +kernel), List.mem_of_getElem? (i := 788) (by decide +kernel)⟩
theorem lw_p35 : lw_okq (⟨"IsHeIn$Belief", "glanceAt", "(I)V"⟩, 5) := ⟨⟨by decide +kernel, by decide +kernel⟩, List.mem_of_getElem? (i := 276) (by decide +kernel), List.mem_of_getElem? (i := 841) (by decide +kernel), List.mem_of_getElem? (i := 842) (by decide +kernel)⟩
theorem lw_p36 : lw_okq (⟨"IsHeIn$Belief", "sureByGlance", "(I)I"⟩, 5) := ⟨⟨by decide +kernel, by decide +kernel⟩, List.mem_of_getElem? (i := 276) (by decide +kernel), List.mem_of_getElem? (i := 846) (by decide +kernel), List.mem_of_getElem? (i := 847) (by decide +kernel)⟩
theorem lw_p37 : lw_okq (⟨"IsHeIn$Belief", "sureAfter", "(IIZ)I"⟩, 5) := ⟨⟨by decide +kernel, by decide +kernel⟩, List.mem_of_getElem? (i := 276) (by decide +kernel), List.mem_of_getElem? (i := 853) (by decide +kernel), List.mem_of_getElem? (i := 854) (by decide +kernel)⟩
theorem lw_p38 : lw_okq (⟨"IsHeIn$Records", "clerkOfLastGoing", "(I)I"⟩, 1) := ⟨⟨by decide +kernel, by decide +kernel⟩, List.mem_of_getElem? (i := 319) (by decide +kernel), List.mem_of_getElem? (i := 902) (by decide +kernel), List.mem_of_getElem? (i := 903) (by decide +kernel)⟩
theorem lw_p39 : lw_okq (⟨"IsHeIn$Records", "hangsWrong", "(I)Z"⟩, 1) := ⟨⟨by decide +kernel, by decide +kernel⟩, List.mem_of_getElem? (i := 319) (by decide +kernel), List.mem_of_getElem? (i := 914) (by decide +kernel), List.mem_of_getElem? (i := 915) (by decide +kernel)⟩
theorem lw_p40 : lw_okq (⟨"IsHeIn", "lookAtTold", "(I)I"⟩, 11) := ⟨⟨by decide +kernel, by decide +kernel⟩, List.mem_of_getElem? (i := 21) (by decide +kernel), List.mem_of_getElem? (i := 959) (by decide +kernel), List.mem_of_getElem? (i := 960) (by decide +kernel)⟩
theorem lw_p41 : lw_okq (⟨"IsHeIn$Belief", "bestSign", "(I)I"⟩, 5) := ⟨⟨by decide +kernel, by decide +kernel⟩, List.mem_of_getElem? (i := 276) (by decide +kernel), List.mem_of_getElem? (i := 971) (by decide +kernel), List.mem_of_getElem? (i := 972) (by decide +kernel)⟩
theorem lw_p42 : lw_okq (⟨"IsHeIn$Belief", "surenessBy", "(II)J"⟩, 5) := ⟨⟨by decide +kernel, by decide +kernel⟩, List.mem_of_getElem? (i := 276) (by decide +kernel), List.mem_of_getElem? (i := 976) (by decide +kernel), List.mem_of_getElem? (i := 977) (by decide +kernel)⟩
theorem lw_p43 : lw_okq (⟨"IsHeIn$Belief", "chanceToSee", "(II)I"⟩, 5) := ⟨⟨by decide +kernel, by decide +kernel⟩, List.mem_of_getElem? (i := 276) (by decide +kernel), List.mem_of_getElem? (i := 980) (by decide +kernel), List.mem_of_getElem? (i := 981) (by decide +kernel)⟩
theorem lw_p44 : lw_okq (⟨"IsHeIn$Belief", "weighAll", "()V"⟩, 5) := ⟨⟨by decide +kernel, by decide +kernel⟩, List.mem_of_getElem? (i := 276) (by decide +kernel), List.mem_of_getElem? (i := 1025) (by decide +kernel), List.mem_of_getElem? (i := 1026) (by decide +kernel)⟩
theorem lw_p45 : lw_okq (⟨"IsHeIn$Belief", "countChances", "(I)V"⟩, 5) := ⟨⟨by decide +kernel, by decide +kernel⟩, List.mem_of_getElem? (i := 276) (by decide +kernel), List.mem_of_getElem? (i := 1033) (by decide +kernel), List.mem_of_getElem? (i := 1034) (by decide +kernel)⟩
theorem lw_p46 : lw_okq (⟨"IsHeIn$Belief", "countChance", "(I)V"⟩, 5) := ⟨⟨by decide +kernel, by decide +kernel⟩, List.mem_of_getElem? (i := 276) (by decide +kernel), List.mem_of_getElem? (i := 1037) (by decide +kernel), List.mem_of_getElem? (i := 1038) (by decide +kernel)⟩
theorem lw_p47 : lw_okq (⟨"IsHeIn$Belief", "chanceWithin", "(II)I"⟩, 5) := ⟨⟨by decide +kernel, by decide +kernel⟩, List.mem_of_getElem? (i := 276) (by decide +kernel), List.mem_of_getElem? (i := 1049) (by decide +kernel), List.mem_of_getElem? (i := 1050) (by decide +kernel)⟩
def lw_privs_3 : List (MethodName × Nat) := [(⟨"IsHeIn$Reader", "readHead", "(ILIsHeIn$Table;)Z"⟩, 17), (⟨"IsHeIn$Reader", "readNamed", "(IIILIsHeIn$Table;I)Z"⟩, 17), (⟨"IsHeIn$Reader", "readShift", "()Z"⟩, 17), (⟨"IsHeIn$Belief", "glanceAt", "(I)V"⟩, 5), (⟨"IsHeIn$Belief", "sureByGlance", "(I)I"⟩, 5), (⟨"IsHeIn$Belief", "sureAfter", "(IIZ)I"⟩, 5), (⟨"IsHeIn$Records", "clerkOfLastGoing", "(I)I"⟩, 1), (⟨"IsHeIn$Records", "hangsWrong", "(I)Z"⟩, 1), (⟨"IsHeIn", "lookAtTold", "(I)I"⟩, 11), (⟨"IsHeIn$Belief", "bestSign", "(I)I"⟩, 5), (⟨"IsHeIn$Belief", "surenessBy", "(II)J"⟩, 5), (⟨"IsHeIn$Belief", "chanceToSee", "(II)I"⟩, 5), (⟨"IsHeIn$Belief", "weighAll", "()V"⟩, 5), (⟨"IsHeIn$Belief", "countChances", "(I)V"⟩, 5), (⟨"IsHeIn$Belief", "countChance", "(I)V"⟩, 5), (⟨"IsHeIn$Belief", "chanceWithin", "(II)I"⟩, 5)]
theorem lw_r3 : ∀ q ∈ lw_privs_3, lw_okq q := List.forall_mem_cons.mpr ⟨lw_p32, List.forall_mem_cons.mpr ⟨lw_p33, List.forall_mem_cons.mpr ⟨lw_p34, List.forall_mem_cons.mpr ⟨lw_p35, List.forall_mem_cons.mpr ⟨lw_p36, List.forall_mem_cons.mpr ⟨lw_p37, List.forall_mem_cons.mpr ⟨lw_p38, List.forall_mem_cons.mpr ⟨lw_p39, List.forall_mem_cons.mpr ⟨lw_p40, List.forall_mem_cons.mpr ⟨lw_p41, List.forall_mem_cons.mpr ⟨lw_p42, List.forall_mem_cons.mpr ⟨lw_p43, List.forall_mem_cons.mpr ⟨lw_p44, List.forall_mem_cons.mpr ⟨lw_p45, List.forall_mem_cons.mpr ⟨lw_p46, List.forall_mem_cons.mpr ⟨lw_p47, fun _ h => absurd h List.not_mem_nil⟩⟩⟩⟩⟩⟩⟩⟩⟩⟩⟩⟩⟩⟩⟩⟩
theorem lw_p48 : lw_okq (⟨"IsHeIn$Foresight", "countGoings", "(I)V"⟩, 4) := ⟨⟨by decide +kernel, by decide +kernel⟩, List.mem_of_getElem? (i := 298) (by decide +kernel), List.mem_of_getElem? (i := 1154) (by decide +kernel), List.mem_of_getElem? (i := 1155) (by decide +kernel)⟩
theorem lw_p49 : lw_okq (⟨"IsHeIn$Foresight", "restFrom", "(IIII)I"⟩, 4) := ⟨⟨by decide +kernel, by decide +kernel⟩, List.mem_of_getElem? (i := 298) (by decide +kernel), List.mem_of_getElem? (i := 1159) (by decide +kernel), List.mem_of_getElem? (i := 1160) (by decide +kernel)⟩
theorem lw_p50 : lw_okq (⟨"IsHeIn$Rounds", "roomsBefore", "(I)I"⟩, 8) := ⟨⟨by decide +kernel, by decide +kernel⟩, List.mem_of_getElem? (i := 329) (by decide +kernel), List.mem_of_getElem? (i := 1201) (by decide +kernel), List.mem_of_getElem? (i := 1202) (by decide +kernel)⟩
theorem lw_p51 : lw_okq (⟨"IsHeIn$Rounds", "canBeDone", "(I)Z"⟩, 8) := ⟨⟨by decide +kernel, by decide +kernel⟩, List.mem_of_getElem? (i := 329) (by decide +kernel), List.mem_of_getElem? (i := 1214) (by decide +kernel), List.mem_of_getElem? (i := 1215) (by decide +kernel)⟩
theorem lw_p52 : lw_okq (⟨"IsHeIn$Rounds", "minutesDueBy", "(II)I"⟩, 8) := ⟨⟨by decide +kernel, by decide +kernel⟩, List.mem_of_getElem? (i := 329) (by decide +kernel), List.mem_of_getElem? (i := 1218) (by decide +kernel), List.mem_of_getElem? (i := 1219) (by decide +kernel)⟩
theorem lw_p53 : lw_okq (⟨"IsHeIn$Rounds", "isBetter", "(II)Z"⟩, 8) := ⟨⟨by decide +kernel, by decide +kernel⟩, List.mem_of_getElem? (i := 329) (by decide +kernel), List.mem_of_getElem? (i := 1222) (by decide +kernel), List.mem_of_getElem? (i := 1223) (by decide +kernel)⟩
theorem lw_p54 : lw_okq (⟨"IsHeIn$Rounds", "searchOn", "(IIIIJ)V"⟩, 8) := ⟨⟨by decide +kernel, by decide +kernel⟩, List.mem_of_getElem? (i := 329) (by decide +kernel), List.mem_of_getElem? (i := 1241) (by decide +kernel), List.mem_of_getElem? (i := 1242) (by decide +kernel)⟩
theorem lw_p55 : lw_okq (⟨"IsHeInModel", "forgets", "()V"⟩, 35) := ⟨⟨by decide +kernel, by decide +kernel⟩, List.mem_of_getElem? (i := 1249) (by decide +kernel), List.mem_of_getElem? (i := 1366) (by decide +kernel), List.mem_of_getElem? (i := 1367) (by decide +kernel)⟩
theorem lw_p56 : lw_okq (⟨"IsHeInModel", "isGuest", "(I)Z"⟩, 35) := ⟨⟨by decide +kernel, by decide +kernel⟩, List.mem_of_getElem? (i := 1249) (by decide +kernel), List.mem_of_getElem? (i := 1381) (by decide +kernel), List.mem_of_getElem? (i := 1382) (by decide +kernel)⟩
theorem lw_p57 : lw_okq (⟨"IsHeInModel", "next0", "()V"⟩, 35) := ⟨⟨by decide +kernel, by decide +kernel⟩, List.mem_of_getElem? (i := 1249) (by decide +kernel), List.mem_of_getElem? (i := 1397) (by decide +kernel), List.mem_of_getElem? (i := 1398) (by decide +kernel)⟩
theorem lw_p58 : lw_okq (⟨"IsHeInModel", "see", "(I)I"⟩, 35) := ⟨⟨by decide +kernel, by decide +kernel⟩, List.mem_of_getElem? (i := 1249) (by decide +kernel), List.mem_of_getElem? (i := 1401) (by decide +kernel), List.mem_of_getElem? (i := 1402) (by decide +kernel)⟩
theorem lw_p59 : lw_okq (⟨"IsHeInModel", "word", "()I"⟩, 35) := ⟨⟨by decide +kernel, by decide +kernel⟩, List.mem_of_getElem? (i := 1249) (by decide +kernel), List.mem_of_getElem? (i := 1408) (by decide +kernel), List.mem_of_getElem? (i := 1409) (by decide +kernel)⟩
theorem lw_p60 : lw_okq (⟨"IsHeInModel", "lawWord", "()I"⟩, 35) := ⟨⟨by decide +kernel, by decide +kernel⟩, List.mem_of_getElem? (i := 1249) (by decide +kernel), List.mem_of_getElem? (i := 1412) (by decide +kernel), List.mem_of_getElem? (i := 1413) (by decide +kernel)⟩
theorem lw_p61 : lw_okq (⟨"IsHeInModel", "is", "(Ljava/lang/String;)Z"⟩, 35) := ⟨⟨by decide +kernel, by decide +kernel⟩, List.mem_of_getElem? (i := 1249) (by decide +kernel), List.mem_of_getElem? (i := 1417) (by decide +kernel), List.mem_of_getElem? (i := 1418) (by decide +kernel)⟩
theorem lw_p62 : lw_okq (⟨"IsHeInModel", "asked", "()I"⟩, 35) := ⟨⟨by decide +kernel, by decide +kernel⟩, List.mem_of_getElem? (i := 1249) (by decide +kernel), List.mem_of_getElem? (i := 1426) (by decide +kernel), List.mem_of_getElem? (i := 1427) (by decide +kernel)⟩
theorem lw_p63 : lw_okq (⟨"IsHeInModel", "wordOfLaw", "()I"⟩, 35) := ⟨⟨by decide +kernel, by decide +kernel⟩, List.mem_of_getElem? (i := 1249) (by decide +kernel), List.mem_of_getElem? (i := 1439) (by decide +kernel), List.mem_of_getElem? (i := 1440) (by decide +kernel)⟩
def lw_privs_4 : List (MethodName × Nat) := [(⟨"IsHeIn$Foresight", "countGoings", "(I)V"⟩, 4), (⟨"IsHeIn$Foresight", "restFrom", "(IIII)I"⟩, 4), (⟨"IsHeIn$Rounds", "roomsBefore", "(I)I"⟩, 8), (⟨"IsHeIn$Rounds", "canBeDone", "(I)Z"⟩, 8), (⟨"IsHeIn$Rounds", "minutesDueBy", "(II)I"⟩, 8), (⟨"IsHeIn$Rounds", "isBetter", "(II)Z"⟩, 8), (⟨"IsHeIn$Rounds", "searchOn", "(IIIIJ)V"⟩, 8), (⟨"IsHeInModel", "forgets", "()V"⟩, 35), (⟨"IsHeInModel", "isGuest", "(I)Z"⟩, 35), (⟨"IsHeInModel", "next0", "()V"⟩, 35), (⟨"IsHeInModel", "see", "(I)I"⟩, 35), (⟨"IsHeInModel", "word", "()I"⟩, 35), (⟨"IsHeInModel", "lawWord", "()I"⟩, 35), (⟨"IsHeInModel", "is", "(Ljava/lang/String;)Z"⟩, 35), (⟨"IsHeInModel", "asked", "()I"⟩, 35), (⟨"IsHeInModel", "wordOfLaw", "()I"⟩, 35)]
theorem lw_r4 : ∀ q ∈ lw_privs_4, lw_okq q := List.forall_mem_cons.mpr ⟨lw_p48, List.forall_mem_cons.mpr ⟨lw_p49, List.forall_mem_cons.mpr ⟨lw_p50, List.forall_mem_cons.mpr ⟨lw_p51, List.forall_mem_cons.mpr ⟨lw_p52, List.forall_mem_cons.mpr ⟨lw_p53, List.forall_mem_cons.mpr ⟨lw_p54, List.forall_mem_cons.mpr ⟨lw_p55, List.forall_mem_cons.mpr ⟨lw_p56, List.forall_mem_cons.mpr ⟨lw_p57, List.forall_mem_cons.mpr ⟨lw_p58, List.forall_mem_cons.mpr ⟨lw_p59, List.forall_mem_cons.mpr ⟨lw_p60, List.forall_mem_cons.mpr ⟨lw_p61, List.forall_mem_cons.mpr ⟨lw_p62, List.forall_mem_cons.mpr ⟨lw_p63, fun _ h => absurd h List.not_mem_nil⟩⟩⟩⟩⟩⟩⟩⟩⟩⟩⟩⟩⟩⟩⟩⟩
theorem lw_p64 : lw_okq (⟨"IsHeInModel", "signWord", "()I"⟩, 35) := ⟨⟨by decide +kernel, by decide +kernel⟩, List.mem_of_getElem? (i := 1249) (by decide +kernel), List.mem_of_getElem? (i := 1449) (by decide +kernel), List.mem_of_getElem? (i := 1450) (by decide +kernel)⟩
theorem lw_p65 : lw_okq (⟨"IsHeInModel", "shiftWord", "()I"⟩, 35) := ⟨⟨by decide +kernel, by decide +kernel⟩, List.mem_of_getElem? (i := 1249) (by decide +kernel), List.mem_of_getElem? (i := 1456) (by decide +kernel), List.mem_of_getElem? (i := 1457) (by decide +kernel)⟩
theorem lw_p66 : lw_okq (⟨"IsHeInModel", "readsLaw", "()Z"⟩, 35) := ⟨⟨by decide +kernel, by decide +kernel⟩, List.mem_of_getElem? (i := 1249) (by decide +kernel), List.mem_of_getElem? (i := 1467) (by decide +kernel), List.mem_of_getElem? (i := 1468) (by decide +kernel)⟩
theorem lw_p67 : lw_okq (⟨"IsHeInModel", "aLine", "()Z"⟩, 35) := ⟨⟨by decide +kernel, by decide +kernel⟩, List.mem_of_getElem? (i := 1249) (by decide +kernel), List.mem_of_getElem? (i := 1471) (by decide +kernel), List.mem_of_getElem? (i := 1472) (by decide +kernel)⟩
theorem lw_p68 : lw_okq (⟨"IsHeInModel", "bad", "(I)Z"⟩, 35) := ⟨⟨by decide +kernel, by decide +kernel⟩, List.mem_of_getElem? (i := 1249) (by decide +kernel), List.mem_of_getElem? (i := 1475) (by decide +kernel), List.mem_of_getElem? (i := 1476) (by decide +kernel)⟩
theorem lw_p69 : lw_okq (⟨"IsHeInModel", "sumUp", "()Z"⟩, 35) := ⟨⟨by decide +kernel, by decide +kernel⟩, List.mem_of_getElem? (i := 1249) (by decide +kernel), List.mem_of_getElem? (i := 1479) (by decide +kernel), List.mem_of_getElem? (i := 1480) (by decide +kernel)⟩
theorem lw_p70 : lw_okq (⟨"IsHeInModel", "product", "()Z"⟩, 35) := ⟨⟨by decide +kernel, by decide +kernel⟩, List.mem_of_getElem? (i := 1249) (by decide +kernel), List.mem_of_getElem? (i := 1483) (by decide +kernel), List.mem_of_getElem? (i := 1484) (by decide +kernel)⟩
theorem lw_p71 : lw_okq (⟨"IsHeInModel", "unit", "()Z"⟩, 35) := ⟨⟨by decide +kernel, by decide +kernel⟩, List.mem_of_getElem? (i := 1249) (by decide +kernel), List.mem_of_getElem? (i := 1487) (by decide +kernel), List.mem_of_getElem? (i := 1488) (by decide +kernel)⟩
theorem lw_p72 : lw_okq (⟨"IsHeInModel", "lay", "(II)V"⟩, 35) := ⟨⟨by decide +kernel, by decide +kernel⟩, List.mem_of_getElem? (i := 1249) (by decide +kernel), List.mem_of_getElem? (i := 1491) (by decide +kernel), List.mem_of_getElem? (i := 1492) (by decide +kernel)⟩
theorem lw_p73 : lw_okq (⟨"IsHeInModel", "any", "()Z"⟩, 35) := ⟨⟨by decide +kernel, by decide +kernel⟩, List.mem_of_getElem? (i := 1249) (by decide +kernel), List.mem_of_getElem? (i := 1495) (by decide +kernel), List.mem_of_getElem? (i := 1496) (by decide +kernel)⟩
theorem lw_p74 : lw_okq (⟨"IsHeInModel", "every", "()Z"⟩, 35) := ⟨⟨by decide +kernel, by decide +kernel⟩, List.mem_of_getElem? (i := 1249) (by decide +kernel), List.mem_of_getElem? (i := 1499) (by decide +kernel), List.mem_of_getElem? (i := 1500) (by decide +kernel)⟩
theorem lw_p75 : lw_okq (⟨"IsHeInModel", "oneTest", "()Z"⟩, 35) := ⟨⟨by decide +kernel, by decide +kernel⟩, List.mem_of_getElem? (i := 1249) (by decide +kernel), List.mem_of_getElem? (i := 1503) (by decide +kernel), List.mem_of_getElem? (i := 1504) (by decide +kernel)⟩
theorem lw_p76 : lw_okq (⟨"IsHeInModel", "opens", "()Z"⟩, 35) := ⟨⟨by decide +kernel, by decide +kernel⟩, List.mem_of_getElem? (i := 1249) (by decide +kernel), List.mem_of_getElem? (i := 1507) (by decide +kernel), List.mem_of_getElem? (i := 1508) (by decide +kernel)⟩
theorem lw_p77 : lw_okq (⟨"IsHeInModel", "need", "(I)Z"⟩, 35) := ⟨⟨by decide +kernel, by decide +kernel⟩, List.mem_of_getElem? (i := 1249) (by decide +kernel), List.mem_of_getElem? (i := 1511) (by decide +kernel), List.mem_of_getElem? (i := 1512) (by decide +kernel)⟩
theorem lw_p78 : lw_okq (⟨"IsHeInModel", "readsRows", "()Z"⟩, 35) := ⟨⟨by decide +kernel, by decide +kernel⟩, List.mem_of_getElem? (i := 1249) (by decide +kernel), List.mem_of_getElem? (i := 1515) (by decide +kernel), List.mem_of_getElem? (i := 1516) (by decide +kernel)⟩
theorem lw_p79 : lw_okq (⟨"IsHeInModel", "aSign", "()Z"⟩, 35) := ⟨⟨by decide +kernel, by decide +kernel⟩, List.mem_of_getElem? (i := 1249) (by decide +kernel), List.mem_of_getElem? (i := 1519) (by decide +kernel), List.mem_of_getElem? (i := 1520) (by decide +kernel)⟩
def lw_privs_5 : List (MethodName × Nat) := [(⟨"IsHeInModel", "signWord", "()I"⟩, 35), (⟨"IsHeInModel", "shiftWord", "()I"⟩, 35), (⟨"IsHeInModel", "readsLaw", "()Z"⟩, 35), (⟨"IsHeInModel", "aLine", "()Z"⟩, 35), (⟨"IsHeInModel", "bad", "(I)Z"⟩, 35), (⟨"IsHeInModel", "sumUp", "()Z"⟩, 35), (⟨"IsHeInModel", "product", "()Z"⟩, 35), (⟨"IsHeInModel", "unit", "()Z"⟩, 35), (⟨"IsHeInModel", "lay", "(II)V"⟩, 35), (⟨"IsHeInModel", "any", "()Z"⟩, 35), (⟨"IsHeInModel", "every", "()Z"⟩, 35), (⟨"IsHeInModel", "oneTest", "()Z"⟩, 35), (⟨"IsHeInModel", "opens", "()Z"⟩, 35), (⟨"IsHeInModel", "need", "(I)Z"⟩, 35), (⟨"IsHeInModel", "readsRows", "()Z"⟩, 35), (⟨"IsHeInModel", "aSign", "()Z"⟩, 35)]
theorem lw_r5 : ∀ q ∈ lw_privs_5, lw_okq q := List.forall_mem_cons.mpr ⟨lw_p64, List.forall_mem_cons.mpr ⟨lw_p65, List.forall_mem_cons.mpr ⟨lw_p66, List.forall_mem_cons.mpr ⟨lw_p67, List.forall_mem_cons.mpr ⟨lw_p68, List.forall_mem_cons.mpr ⟨lw_p69, List.forall_mem_cons.mpr ⟨lw_p70, List.forall_mem_cons.mpr ⟨lw_p71, List.forall_mem_cons.mpr ⟨lw_p72, List.forall_mem_cons.mpr ⟨lw_p73, List.forall_mem_cons.mpr ⟨lw_p74, List.forall_mem_cons.mpr ⟨lw_p75, List.forall_mem_cons.mpr ⟨lw_p76, List.forall_mem_cons.mpr ⟨lw_p77, List.forall_mem_cons.mpr ⟨lw_p78, List.forall_mem_cons.mpr ⟨lw_p79, fun _ h => absurd h List.not_mem_nil⟩⟩⟩⟩⟩⟩⟩⟩⟩⟩⟩⟩⟩⟩⟩⟩
theorem lw_p80 : lw_okq (⟨"IsHeInModel", "told", "(IIII)Z"⟩, 35) := ⟨⟨by decide +kernel, by decide +kernel⟩, List.mem_of_getElem? (i := 1249) (by decide +kernel), List.mem_of_getElem? (i := 1523) (by decide +kernel), List.mem_of_getElem? (i := 1524) (by decide +kernel)⟩
theorem lw_p81 : lw_okq (⟨"IsHeInModel", "number", "(II)Z"⟩, 35) := ⟨⟨by decide +kernel, by decide +kernel⟩, List.mem_of_getElem? (i := 1249) (by decide +kernel), List.mem_of_getElem? (i := 1527) (by decide +kernel), List.mem_of_getElem? (i := 1528) (by decide +kernel)⟩
theorem lw_p82 : lw_okq (⟨"IsHeInModel", "aShift", "()Z"⟩, 35) := ⟨⟨by decide +kernel, by decide +kernel⟩, List.mem_of_getElem? (i := 1249) (by decide +kernel), List.mem_of_getElem? (i := 1531) (by decide +kernel), List.mem_of_getElem? (i := 1532) (by decide +kernel)⟩
theorem lw_p83 : lw_okq (⟨"IsHeInModel", "putsLaw", "()I"⟩, 35) := ⟨⟨by decide +kernel, by decide +kernel⟩, List.mem_of_getElem? (i := 1249) (by decide +kernel), List.mem_of_getElem? (i := 1535) (by decide +kernel), List.mem_of_getElem? (i := 1536) (by decide +kernel)⟩
theorem lw_p84 : lw_okq (⟨"IsHeInModel", "putsSigns", "()I"⟩, 35) := ⟨⟨by decide +kernel, by decide +kernel⟩, List.mem_of_getElem? (i := 1249) (by decide +kernel), List.mem_of_getElem? (i := 1539) (by decide +kernel), List.mem_of_getElem? (i := 1540) (by decide +kernel)⟩
theorem lw_p85 : lw_okq (⟨"IsHeInModel", "putsShifts", "()I"⟩, 35) := ⟨⟨by decide +kernel, by decide +kernel⟩, List.mem_of_getElem? (i := 1249) (by decide +kernel), List.mem_of_getElem? (i := 1543) (by decide +kernel), List.mem_of_getElem? (i := 1544) (by decide +kernel)⟩
theorem lw_p86 : lw_okq (⟨"IsHeInModel", "keeps", "()V"⟩, 35) := ⟨⟨by decide +kernel, by decide +kernel⟩, List.mem_of_getElem? (i := 1249) (by decide +kernel), List.mem_of_getElem? (i := 1559) (by decide +kernel), List.mem_of_getElem? (i := 1560) (by decide +kernel)⟩
theorem lw_p87 : lw_okq (⟨"IsHeInModel", "anHour", "()I"⟩, 35) := ⟨⟨by decide +kernel, by decide +kernel⟩, List.mem_of_getElem? (i := 1249) (by decide +kernel), List.mem_of_getElem? (i := 1563) (by decide +kernel), List.mem_of_getElem? (i := 1564) (by decide +kernel)⟩
theorem lw_p88 : lw_okq (⟨"IsHeInModel", "isMoved", "(I)Z"⟩, 35) := ⟨⟨by decide +kernel, by decide +kernel⟩, List.mem_of_getElem? (i := 1249) (by decide +kernel), List.mem_of_getElem? (i := 1567) (by decide +kernel), List.mem_of_getElem? (i := 1568) (by decide +kernel)⟩
theorem lw_p89 : lw_okq (⟨"IsHeInModel", "saysNow", "(II)I"⟩, 35) := ⟨⟨by decide +kernel, by decide +kernel⟩, List.mem_of_getElem? (i := 1249) (by decide +kernel), List.mem_of_getElem? (i := 1571) (by decide +kernel), List.mem_of_getElem? (i := 1572) (by decide +kernel)⟩
theorem lw_p90 : lw_okq (⟨"IsHeInModel", "saysIn", "(IIIII)I"⟩, 35) := ⟨⟨by decide +kernel, by decide +kernel⟩, List.mem_of_getElem? (i := 1249) (by decide +kernel), List.mem_of_getElem? (i := 1575) (by decide +kernel), List.mem_of_getElem? (i := 1576) (by decide +kernel)⟩
theorem lw_p91 : lw_okq (⟨"IsHeInModel", "isOnBoard", "(I)Z"⟩, 35) := ⟨⟨by decide +kernel, by decide +kernel⟩, List.mem_of_getElem? (i := 1249) (by decide +kernel), List.mem_of_getElem? (i := 1579) (by decide +kernel), List.mem_of_getElem? (i := 1580) (by decide +kernel)⟩
theorem lw_p92 : lw_okq (⟨"IsHeInModel", "isSo", "(I)Z"⟩, 35) := ⟨⟨by decide +kernel, by decide +kernel⟩, List.mem_of_getElem? (i := 1249) (by decide +kernel), List.mem_of_getElem? (i := 1583) (by decide +kernel), List.mem_of_getElem? (i := 1584) (by decide +kernel)⟩
theorem lw_p93 : lw_okq (⟨"IsHeInModel", "comesTo", "(III)I"⟩, 35) := ⟨⟨by decide +kernel, by decide +kernel⟩, List.mem_of_getElem? (i := 1249) (by decide +kernel), List.mem_of_getElem? (i := 1587) (by decide +kernel), List.mem_of_getElem? (i := 1588) (by decide +kernel)⟩
theorem lw_p94 : lw_okq (⟨"IsHeInModel", "without", "(II)I"⟩, 35) := ⟨⟨by decide +kernel, by decide +kernel⟩, List.mem_of_getElem? (i := 1249) (by decide +kernel), List.mem_of_getElem? (i := 1600) (by decide +kernel), List.mem_of_getElem? (i := 1601) (by decide +kernel)⟩
theorem lw_p95 : lw_okq (⟨"IsHeInModel", "draw", "(I)I"⟩, 35) := ⟨⟨by decide +kernel, by decide +kernel⟩, List.mem_of_getElem? (i := 1249) (by decide +kernel), List.mem_of_getElem? (i := 1604) (by decide +kernel), List.mem_of_getElem? (i := 1605) (by decide +kernel)⟩
def lw_privs_6 : List (MethodName × Nat) := [(⟨"IsHeInModel", "told", "(IIII)Z"⟩, 35), (⟨"IsHeInModel", "number", "(II)Z"⟩, 35), (⟨"IsHeInModel", "aShift", "()Z"⟩, 35), (⟨"IsHeInModel", "putsLaw", "()I"⟩, 35), (⟨"IsHeInModel", "putsSigns", "()I"⟩, 35), (⟨"IsHeInModel", "putsShifts", "()I"⟩, 35), (⟨"IsHeInModel", "keeps", "()V"⟩, 35), (⟨"IsHeInModel", "anHour", "()I"⟩, 35), (⟨"IsHeInModel", "isMoved", "(I)Z"⟩, 35), (⟨"IsHeInModel", "saysNow", "(II)I"⟩, 35), (⟨"IsHeInModel", "saysIn", "(IIIII)I"⟩, 35), (⟨"IsHeInModel", "isOnBoard", "(I)Z"⟩, 35), (⟨"IsHeInModel", "isSo", "(I)Z"⟩, 35), (⟨"IsHeInModel", "comesTo", "(III)I"⟩, 35), (⟨"IsHeInModel", "without", "(II)I"⟩, 35), (⟨"IsHeInModel", "draw", "(I)I"⟩, 35)]
theorem lw_r6 : ∀ q ∈ lw_privs_6, lw_okq q := List.forall_mem_cons.mpr ⟨lw_p80, List.forall_mem_cons.mpr ⟨lw_p81, List.forall_mem_cons.mpr ⟨lw_p82, List.forall_mem_cons.mpr ⟨lw_p83, List.forall_mem_cons.mpr ⟨lw_p84, List.forall_mem_cons.mpr ⟨lw_p85, List.forall_mem_cons.mpr ⟨lw_p86, List.forall_mem_cons.mpr ⟨lw_p87, List.forall_mem_cons.mpr ⟨lw_p88, List.forall_mem_cons.mpr ⟨lw_p89, List.forall_mem_cons.mpr ⟨lw_p90, List.forall_mem_cons.mpr ⟨lw_p91, List.forall_mem_cons.mpr ⟨lw_p92, List.forall_mem_cons.mpr ⟨lw_p93, List.forall_mem_cons.mpr ⟨lw_p94, List.forall_mem_cons.mpr ⟨lw_p95, fun _ h => absurd h List.not_mem_nil⟩⟩⟩⟩⟩⟩⟩⟩⟩⟩⟩⟩⟩⟩⟩⟩
theorem lw_p96 : lw_okq (⟨"IsHeInModel", "hangsOn", "(III)I"⟩, 35) := ⟨⟨by decide +kernel, by decide +kernel⟩, List.mem_of_getElem? (i := 1249) (by decide +kernel), List.mem_of_getElem? (i := 1610) (by decide +kernel), List.mem_of_getElem? (i := 1611) (by decide +kernel)⟩
theorem lw_p97 : lw_okq (⟨"IsHeInModel", "keyOn", "(I)I"⟩, 35) := ⟨⟨by decide +kernel, by decide +kernel⟩, List.mem_of_getElem? (i := 1249) (by decide +kernel), List.mem_of_getElem? (i := 1614) (by decide +kernel), List.mem_of_getElem? (i := 1615) (by decide +kernel)⟩
theorem lw_p98 : lw_okq (⟨"IsHeInModel", "clerkAt", "(I)I"⟩, 35) := ⟨⟨by decide +kernel, by decide +kernel⟩, List.mem_of_getElem? (i := 1249) (by decide +kernel), List.mem_of_getElem? (i := 1618) (by decide +kernel), List.mem_of_getElem? (i := 1619) (by decide +kernel)⟩
theorem lw_p99 : lw_okq (⟨"IsHeInModel", "notes", "(IIII)V"⟩, 35) := ⟨⟨by decide +kernel, by decide +kernel⟩, List.mem_of_getElem? (i := 1249) (by decide +kernel), List.mem_of_getElem? (i := 1622) (by decide +kernel), List.mem_of_getElem? (i := 1623) (by decide +kernel)⟩
theorem lw_p100 : lw_okq (⟨"IsHeInModel", "isSign", "(I)Z"⟩, 35) := ⟨⟨by decide +kernel, by decide +kernel⟩, List.mem_of_getElem? (i := 1249) (by decide +kernel), List.mem_of_getElem? (i := 1634) (by decide +kernel), List.mem_of_getElem? (i := 1635) (by decide +kernel)⟩
theorem lw_p101 : lw_okq (⟨"IsHeInModel", "sureOf", "(I)J"⟩, 35) := ⟨⟨by decide +kernel, by decide +kernel⟩, List.mem_of_getElem? (i := 1249) (by decide +kernel), List.mem_of_getElem? (i := 1642) (by decide +kernel), List.mem_of_getElem? (i := 1643) (by decide +kernel)⟩
theorem lw_p102 : lw_okq (⟨"IsHeInModel", "bySign", "(JII)J"⟩, 35) := ⟨⟨by decide +kernel, by decide +kernel⟩, List.mem_of_getElem? (i := 1249) (by decide +kernel), List.mem_of_getElem? (i := 1646) (by decide +kernel), List.mem_of_getElem? (i := 1647) (by decide +kernel)⟩
theorem lw_p103 : lw_okq (⟨"IsHeInModel", "byA", "(JJJ)J"⟩, 35) := ⟨⟨by decide +kernel, by decide +kernel⟩, List.mem_of_getElem? (i := 1249) (by decide +kernel), List.mem_of_getElem? (i := 1650) (by decide +kernel), List.mem_of_getElem? (i := 1651) (by decide +kernel)⟩
theorem lw_p104 : lw_okq (⟨"IsHeInModel", "lookedAt", "(I)I"⟩, 35) := ⟨⟨by decide +kernel, by decide +kernel⟩, List.mem_of_getElem? (i := 1249) (by decide +kernel), List.mem_of_getElem? (i := 1655) (by decide +kernel), List.mem_of_getElem? (i := 1656) (by decide +kernel)⟩
theorem lw_p105 : lw_okq (⟨"IsHeInModel", "nextOf", "(JI)I"⟩, 35) := ⟨⟨by decide +kernel, by decide +kernel⟩, List.mem_of_getElem? (i := 1249) (by decide +kernel), List.mem_of_getElem? (i := 1659) (by decide +kernel), List.mem_of_getElem? (i := 1660) (by decide +kernel)⟩
theorem lw_p106 : lw_okq (⟨"IsHeInModel", "worthOf", "(JI)J"⟩, 35) := ⟨⟨by decide +kernel, by decide +kernel⟩, List.mem_of_getElem? (i := 1249) (by decide +kernel), List.mem_of_getElem? (i := 1664) (by decide +kernel), List.mem_of_getElem? (i := 1665) (by decide +kernel)⟩
theorem lw_p107 : lw_okq (⟨"IsHeInModel", "seeing", "(JI)J"⟩, 35) := ⟨⟨by decide +kernel, by decide +kernel⟩, List.mem_of_getElem? (i := 1249) (by decide +kernel), List.mem_of_getElem? (i := 1668) (by decide +kernel), List.mem_of_getElem? (i := 1669) (by decide +kernel)⟩
theorem lw_p108 : lw_okq (⟨"IsHeInModel", "laysChances", "()V"⟩, 35) := ⟨⟨by decide +kernel, by decide +kernel⟩, List.mem_of_getElem? (i := 1249) (by decide +kernel), List.mem_of_getElem? (i := 1705) (by decide +kernel), List.mem_of_getElem? (i := 1706) (by decide +kernel)⟩
theorem lw_p109 : lw_okq (⟨"IsHeInModel", "tagCostOf", "(III)I"⟩, 35) := ⟨⟨by decide +kernel, by decide +kernel⟩, List.mem_of_getElem? (i := 1249) (by decide +kernel), List.mem_of_getElem? (i := 1713) (by decide +kernel), List.mem_of_getElem? (i := 1714) (by decide +kernel)⟩
theorem lw_p110 : lw_okq (⟨"IsHeInModel", "longFrom", "(IJ)I"⟩, 35) := ⟨⟨by decide +kernel, by decide +kernel⟩, List.mem_of_getElem? (i := 1249) (by decide +kernel), List.mem_of_getElem? (i := 1725) (by decide +kernel), List.mem_of_getElem? (i := 1726) (by decide +kernel)⟩
theorem lw_p111 : lw_okq (⟨"IsHeInModel", "laysOthers", "(I)V"⟩, 35) := ⟨⟨by decide +kernel, by decide +kernel⟩, List.mem_of_getElem? (i := 1249) (by decide +kernel), List.mem_of_getElem? (i := 1733) (by decide +kernel), List.mem_of_getElem? (i := 1734) (by decide +kernel)⟩
def lw_privs_7 : List (MethodName × Nat) := [(⟨"IsHeInModel", "hangsOn", "(III)I"⟩, 35), (⟨"IsHeInModel", "keyOn", "(I)I"⟩, 35), (⟨"IsHeInModel", "clerkAt", "(I)I"⟩, 35), (⟨"IsHeInModel", "notes", "(IIII)V"⟩, 35), (⟨"IsHeInModel", "isSign", "(I)Z"⟩, 35), (⟨"IsHeInModel", "sureOf", "(I)J"⟩, 35), (⟨"IsHeInModel", "bySign", "(JII)J"⟩, 35), (⟨"IsHeInModel", "byA", "(JJJ)J"⟩, 35), (⟨"IsHeInModel", "lookedAt", "(I)I"⟩, 35), (⟨"IsHeInModel", "nextOf", "(JI)I"⟩, 35), (⟨"IsHeInModel", "worthOf", "(JI)J"⟩, 35), (⟨"IsHeInModel", "seeing", "(JI)J"⟩, 35), (⟨"IsHeInModel", "laysChances", "()V"⟩, 35), (⟨"IsHeInModel", "tagCostOf", "(III)I"⟩, 35), (⟨"IsHeInModel", "longFrom", "(IJ)I"⟩, 35), (⟨"IsHeInModel", "laysOthers", "(I)V"⟩, 35)]
theorem lw_r7 : ∀ q ∈ lw_privs_7, lw_okq q := List.forall_mem_cons.mpr ⟨lw_p96, List.forall_mem_cons.mpr ⟨lw_p97, List.forall_mem_cons.mpr ⟨lw_p98, List.forall_mem_cons.mpr ⟨lw_p99, List.forall_mem_cons.mpr ⟨lw_p100, List.forall_mem_cons.mpr ⟨lw_p101, List.forall_mem_cons.mpr ⟨lw_p102, List.forall_mem_cons.mpr ⟨lw_p103, List.forall_mem_cons.mpr ⟨lw_p104, List.forall_mem_cons.mpr ⟨lw_p105, List.forall_mem_cons.mpr ⟨lw_p106, List.forall_mem_cons.mpr ⟨lw_p107, List.forall_mem_cons.mpr ⟨lw_p108, List.forall_mem_cons.mpr ⟨lw_p109, List.forall_mem_cons.mpr ⟨lw_p110, List.forall_mem_cons.mpr ⟨lw_p111, fun _ h => absurd h List.not_mem_nil⟩⟩⟩⟩⟩⟩⟩⟩⟩⟩⟩⟩⟩⟩⟩⟩
theorem lw_p112 : lw_okq (⟨"IsHeInModel", "movesIn", "(I)I"⟩, 35) := ⟨⟨by decide +kernel, by decide +kernel⟩, List.mem_of_getElem? (i := 1249) (by decide +kernel), List.mem_of_getElem? (i := 1745) (by decide +kernel), List.mem_of_getElem? (i := 1746) (by decide +kernel)⟩
theorem lw_p113 : lw_okq (⟨"IsHeInModel", "isKnockedAhead", "(II)Z"⟩, 35) := ⟨⟨by decide +kernel, by decide +kernel⟩, List.mem_of_getElem? (i := 1249) (by decide +kernel), List.mem_of_getElem? (i := 1769) (by decide +kernel), List.mem_of_getElem? (i := 1770) (by decide +kernel)⟩
theorem lw_p114 : lw_okq (⟨"IsHeInModel", "ofRoom", "(II)I"⟩, 35) := ⟨⟨by decide +kernel, by decide +kernel⟩, List.mem_of_getElem? (i := 1249) (by decide +kernel), List.mem_of_getElem? (i := 1773) (by decide +kernel), List.mem_of_getElem? (i := 1774) (by decide +kernel)⟩
theorem lw_p115 : lw_okq (⟨"IsHeInModel", "canDo", "(I)Z"⟩, 35) := ⟨⟨by decide +kernel, by decide +kernel⟩, List.mem_of_getElem? (i := 1249) (by decide +kernel), List.mem_of_getElem? (i := 1785) (by decide +kernel), List.mem_of_getElem? (i := 1786) (by decide +kernel)⟩
theorem lw_p116 : lw_okq (⟨"IsHeInModel", "worthOfSet", "(I)I"⟩, 35) := ⟨⟨by decide +kernel, by decide +kernel⟩, List.mem_of_getElem? (i := 1249) (by decide +kernel), List.mem_of_getElem? (i := 1789) (by decide +kernel), List.mem_of_getElem? (i := 1790) (by decide +kernel)⟩
theorem lw_p117 : lw_okq (⟨"IsHeInModel", "swappedSet", "()I"⟩, 35) := ⟨⟨by decide +kernel, by decide +kernel⟩, List.mem_of_getElem? (i := 1249) (by decide +kernel), List.mem_of_getElem? (i := 1804) (by decide +kernel), List.mem_of_getElem? (i := 1805) (by decide +kernel)⟩
theorem lw_p118 : lw_okq (⟨"IsHeInModel", "ringMany", "()I"⟩, 35) := ⟨⟨by decide +kernel, by decide +kernel⟩, List.mem_of_getElem? (i := 1249) (by decide +kernel), List.mem_of_getElem? (i := 1808) (by decide +kernel), List.mem_of_getElem? (i := 1809) (by decide +kernel)⟩
theorem lw_p119 : lw_okq (⟨"IsHeInModel", "leadsRing", "(I)Z"⟩, 35) := ⟨⟨by decide +kernel, by decide +kernel⟩, List.mem_of_getElem? (i := 1249) (by decide +kernel), List.mem_of_getElem? (i := 1812) (by decide +kernel), List.mem_of_getElem? (i := 1813) (by decide +kernel)⟩
theorem lw_p120 : lw_okq (⟨"IsHeInModel", "laysFloors", "()V"⟩, 35) := ⟨⟨by decide +kernel, by decide +kernel⟩, List.mem_of_getElem? (i := 1249) (by decide +kernel), List.mem_of_getElem? (i := 1820) (by decide +kernel), List.mem_of_getElem? (i := 1821) (by decide +kernel)⟩
theorem lw_p121 : lw_okq (⟨"IsHeInModel", "searches", "(IIIJ)V"⟩, 35) := ⟨⟨by decide +kernel, by decide +kernel⟩, List.mem_of_getElem? (i := 1249) (by decide +kernel), List.mem_of_getElem? (i := 1824) (by decide +kernel), List.mem_of_getElem? (i := 1825) (by decide +kernel)⟩
theorem lw_p122 : lw_okq (⟨"IsHeInModel", "laysDoors", "()V"⟩, 35) := ⟨⟨by decide +kernel, by decide +kernel⟩, List.mem_of_getElem? (i := 1249) (by decide +kernel), List.mem_of_getElem? (i := 1832) (by decide +kernel), List.mem_of_getElem? (i := 1833) (by decide +kernel)⟩
theorem lw_p123 : lw_okq (⟨"IsHeInModel", "mostBy", "(III)I"⟩, 35) := ⟨⟨by decide +kernel, by decide +kernel⟩, List.mem_of_getElem? (i := 1249) (by decide +kernel), List.mem_of_getElem? (i := 1836) (by decide +kernel), List.mem_of_getElem? (i := 1837) (by decide +kernel)⟩
theorem lw_p124 : lw_okq (⟨"IsHeInModel", "lastSawBy", "(I)I"⟩, 35) := ⟨⟨by decide +kernel, by decide +kernel⟩, List.mem_of_getElem? (i := 1249) (by decide +kernel), List.mem_of_getElem? (i := 1844) (by decide +kernel), List.mem_of_getElem? (i := 1845) (by decide +kernel)⟩
theorem lw_p125 : lw_okq (⟨"IsHeInModel", "outs", "()I"⟩, 35) := ⟨⟨by decide +kernel, by decide +kernel⟩, List.mem_of_getElem? (i := 1249) (by decide +kernel), List.mem_of_getElem? (i := 1889) (by decide +kernel), List.mem_of_getElem? (i := 1890) (by decide +kernel)⟩
theorem lw_p126 : lw_okq (⟨"IsHeInModel", "hooksWithKeys", "()I"⟩, 35) := ⟨⟨by decide +kernel, by decide +kernel⟩, List.mem_of_getElem? (i := 1249) (by decide +kernel), List.mem_of_getElem? (i := 1893) (by decide +kernel), List.mem_of_getElem? (i := 1894) (by decide +kernel)⟩
def lw_privs_8 : List (MethodName × Nat) := [(⟨"IsHeInModel", "movesIn", "(I)I"⟩, 35), (⟨"IsHeInModel", "isKnockedAhead", "(II)Z"⟩, 35), (⟨"IsHeInModel", "ofRoom", "(II)I"⟩, 35), (⟨"IsHeInModel", "canDo", "(I)Z"⟩, 35), (⟨"IsHeInModel", "worthOfSet", "(I)I"⟩, 35), (⟨"IsHeInModel", "swappedSet", "()I"⟩, 35), (⟨"IsHeInModel", "ringMany", "()I"⟩, 35), (⟨"IsHeInModel", "leadsRing", "(I)Z"⟩, 35), (⟨"IsHeInModel", "laysFloors", "()V"⟩, 35), (⟨"IsHeInModel", "searches", "(IIIJ)V"⟩, 35), (⟨"IsHeInModel", "laysDoors", "()V"⟩, 35), (⟨"IsHeInModel", "mostBy", "(III)I"⟩, 35), (⟨"IsHeInModel", "lastSawBy", "(I)I"⟩, 35), (⟨"IsHeInModel", "outs", "()I"⟩, 35), (⟨"IsHeInModel", "hooksWithKeys", "()I"⟩, 35)]
theorem lw_r8 : ∀ q ∈ lw_privs_8, lw_okq q := List.forall_mem_cons.mpr ⟨lw_p112, List.forall_mem_cons.mpr ⟨lw_p113, List.forall_mem_cons.mpr ⟨lw_p114, List.forall_mem_cons.mpr ⟨lw_p115, List.forall_mem_cons.mpr ⟨lw_p116, List.forall_mem_cons.mpr ⟨lw_p117, List.forall_mem_cons.mpr ⟨lw_p118, List.forall_mem_cons.mpr ⟨lw_p119, List.forall_mem_cons.mpr ⟨lw_p120, List.forall_mem_cons.mpr ⟨lw_p121, List.forall_mem_cons.mpr ⟨lw_p122, List.forall_mem_cons.mpr ⟨lw_p123, List.forall_mem_cons.mpr ⟨lw_p124, List.forall_mem_cons.mpr ⟨lw_p125, List.forall_mem_cons.mpr ⟨lw_p126, fun _ h => absurd h List.not_mem_nil⟩⟩⟩⟩⟩⟩⟩⟩⟩⟩⟩⟩⟩⟩⟩
def lw_privs : List (MethodName × Nat) := lw_privs_1 ++ (lw_privs_2 ++ (lw_privs_3 ++ (lw_privs_4 ++ (lw_privs_5 ++ (lw_privs_6 ++ (lw_privs_7 ++ (lw_privs_8)))))))
def lw_tbl : List Cond := k2_sels lw_privs ++ tables_1
theorem lw_privs_ok : ∀ q ∈ lw_privs, lw_okq q := by
  show ∀ q ∈ lw_privs_1 ++ (lw_privs_2 ++ (lw_privs_3 ++ (lw_privs_4 ++ (lw_privs_5 ++ (lw_privs_6 ++ (lw_privs_7 ++ (lw_privs_8))))))), lw_okq q
  exact List.forall_mem_append.mpr ⟨lw_r1, List.forall_mem_append.mpr ⟨lw_r2, List.forall_mem_append.mpr ⟨lw_r3, List.forall_mem_append.mpr ⟨lw_r4, List.forall_mem_append.mpr ⟨lw_r5, List.forall_mem_append.mpr ⟨lw_r6, List.forall_mem_append.mpr ⟨lw_r7, lw_r8⟩⟩⟩⟩⟩⟩⟩

def RX0 : String := "IsHeIn$Belief"
def TX0 : u_T := fun k => match k with
  | 0 => ("IsHeIn$Belief", "house", "LIsHeIn$House;", true)
  | 1 => ("IsHeIn$Belief", "law", "LIsHeIn$Law;", true)
  | 2 => ("IsHeIn$Belief", "glance", "[I", true)
  | 3 => ("IsHeIn$Belief", "chances", "[I", true)
  | _ => ("IsHeIn$Belief", "sures", "[I", true)
def tyX0 : Nat → FieldType := fun k => match k with
  | 0 => .object "IsHeIn$House"
  | 1 => .object "IsHeIn$Law"
  | 2 => .array .int
  | 3 => .array .int
  | _ => .array .int
theorem nmX0 : ∀ a, a < 5 → ∀ b, b < 5 → a ≠ b → (TX0 a).2.1 ≠ (TX0 b).2.1 := by decide +kernel
theorem tyX0_ok : ∀ k, k < 5 → parseFieldDescriptor (TX0 k).2.2.1 = some (tyX0 k) := by decide +kernel
def RX1 : String := "IsHeIn$Foresight"
def TX1 : u_T := fun k => match k with
  | 0 => ("IsHeIn$Foresight", "house", "LIsHeIn$House;", true)
  | 1 => ("IsHeIn$Foresight", "law", "LIsHeIn$Law;", true)
  | 2 => ("IsHeIn$Foresight", "seen", "LIsHeIn$Table;", true)
  | _ => ("IsHeIn$Foresight", "rest", "LIsHeIn$Table;", true)
def tyX1 : Nat → FieldType := fun k => match k with
  | 0 => .object "IsHeIn$House"
  | 1 => .object "IsHeIn$Law"
  | 2 => .object "IsHeIn$Table"
  | _ => .object "IsHeIn$Table"
theorem nmX1 : ∀ a, a < 4 → ∀ b, b < 4 → a ≠ b → (TX1 a).2.1 ≠ (TX1 b).2.1 := by decide +kernel
theorem tyX1_ok : ∀ k, k < 4 → parseFieldDescriptor (TX1 k).2.2.1 = some (tyX1 k) := by decide +kernel
def RX2 : String := "IsHeIn$House"
def TX2 : u_T := fun k => match k with
  | 0 => ("IsHeIn$House", "guests", "LIsHeIn$Table;", true)
  | 1 => ("IsHeIn$House", "book", "LIsHeIn$Table;", true)
  | 2 => ("IsHeIn$House", "laws", "LIsHeIn$Table;", true)
  | 3 => ("IsHeIn$House", "code", "LIsHeIn$Table;", true)
  | 4 => ("IsHeIn$House", "signs", "LIsHeIn$Table;", true)
  | 5 => ("IsHeIn$House", "shifts", "LIsHeIn$Table;", true)
  | 6 => ("IsHeIn$House", "rooms", "LIsHeIn$Table;", true)
  | 7 => ("IsHeIn$House", "callers", "LIsHeIn$Table;", true)
  | 8 => ("IsHeIn$House", "pear", "I", false)
  | 9 => ("IsHeIn$House", "rain", "I", false)
  | 10 => ("IsHeIn$House", "hour", "I", false)
  | _ => ("IsHeIn$House", "draws", "I", false)
def tyX2 : Nat → FieldType := fun k => match k with
  | 0 => .object "IsHeIn$Table"
  | 1 => .object "IsHeIn$Table"
  | 2 => .object "IsHeIn$Table"
  | 3 => .object "IsHeIn$Table"
  | 4 => .object "IsHeIn$Table"
  | 5 => .object "IsHeIn$Table"
  | 6 => .object "IsHeIn$Table"
  | 7 => .object "IsHeIn$Table"
  | 8 => .int
  | 9 => .int
  | 10 => .int
  | _ => .int
theorem nmX2 : ∀ a, a < 12 → ∀ b, b < 12 → a ≠ b → (TX2 a).2.1 ≠ (TX2 b).2.1 := by decide +kernel
theorem tyX2_ok : ∀ k, k < 12 → parseFieldDescriptor (TX2 k).2.2.1 = some (tyX2 k) := by decide +kernel
def RX3 : String := "IsHeIn$Law"
def TX3 : u_T := fun k => match k with
  | 0 => ("IsHeIn$Law", "house", "LIsHeIn$House;", true)
  | 1 => ("IsHeIn$Law", "known", "[I", true)
  | _ => ("IsHeIn$Law", "stack", "[I", true)
def tyX3 : Nat → FieldType := fun k => match k with
  | 0 => .object "IsHeIn$House"
  | 1 => .array .int
  | _ => .array .int
theorem nmX3 : ∀ a, a < 3 → ∀ b, b < 3 → a ≠ b → (TX3 a).2.1 ≠ (TX3 b).2.1 := by decide +kernel
theorem tyX3_ok : ∀ k, k < 3 → parseFieldDescriptor (TX3 k).2.2.1 = some (tyX3 k) := by decide +kernel
def RX4 : String := "IsHeIn$Moment"
def TX4 : u_T := fun k => match k with
  | 0 => ("IsHeIn$Moment", "guests", "LIsHeIn$Table;", true)
  | 1 => ("IsHeIn$Moment", "lines", "I", false)
  | 2 => ("IsHeIn$Moment", "hour", "I", false)
  | _ => ("IsHeIn$Moment", "draws", "I", false)
def tyX4 : Nat → FieldType := fun k => match k with
  | 0 => .object "IsHeIn$Table"
  | 1 => .int
  | 2 => .int
  | _ => .int
theorem nmX4 : ∀ a, a < 4 → ∀ b, b < 4 → a ≠ b → (TX4 a).2.1 ≠ (TX4 b).2.1 := by decide +kernel
theorem tyX4_ok : ∀ k, k < 4 → parseFieldDescriptor (TX4 k).2.2.1 = some (tyX4 k) := by decide +kernel
def RX5 : String := "IsHeIn$Past"
def TX5 : u_T := fun k => match k with
  | 0 => ("IsHeIn$Past", "moments", "[LIsHeIn$Moment;", true)
  | 1 => ("IsHeIn$Past", "count", "I", false)
  | _ => ("IsHeIn$Past", "top", "I", false)
def tyX5 : Nat → FieldType := fun k => match k with
  | 0 => .array (.object "IsHeIn$Moment")
  | 1 => .int
  | _ => .int
theorem nmX5 : ∀ a, a < 3 → ∀ b, b < 3 → a ≠ b → (TX5 a).2.1 ≠ (TX5 b).2.1 := by decide +kernel
theorem tyX5_ok : ∀ k, k < 3 → parseFieldDescriptor (TX5 k).2.2.1 = some (tyX5 k) := by decide +kernel
def RX6 : String := "IsHeIn$Porter"
def TX6 : u_T := fun k => match k with
  | 0 => ("IsHeIn$Porter", "house", "LIsHeIn$House;", true)
  | 1 => ("IsHeIn$Porter", "law", "LIsHeIn$Law;", true)
  | _ => ("IsHeIn$Porter", "told", "[I", true)
def tyX6 : Nat → FieldType := fun k => match k with
  | 0 => .object "IsHeIn$House"
  | 1 => .object "IsHeIn$Law"
  | _ => .array .int
theorem nmX6 : ∀ a, a < 3 → ∀ b, b < 3 → a ≠ b → (TX6 a).2.1 ≠ (TX6 b).2.1 := by decide +kernel
theorem tyX6_ok : ∀ k, k < 3 → parseFieldDescriptor (TX6 k).2.2.1 = some (tyX6 k) := by decide +kernel
def RX7 : String := "IsHeIn$Reader"
def TX7 : u_T := fun k => match k with
  | 0 => ("IsHeIn$Reader", "laws", "LIsHeIn$Table;", true)
  | 1 => ("IsHeIn$Reader", "code", "LIsHeIn$Table;", true)
  | 2 => ("IsHeIn$Reader", "signs", "LIsHeIn$Table;", true)
  | 3 => ("IsHeIn$Reader", "shifts", "LIsHeIn$Table;", true)
  | 4 => ("IsHeIn$Reader", "tape", "[I", true)
  | 5 => ("IsHeIn$Reader", "tokens", "LIsHeIn$Table;", true)
  | 6 => ("IsHeIn$Reader", "waiting", "[I", true)
  | 7 => ("IsHeIn$Reader", "waitingCount", "I", false)
  | 8 => ("IsHeIn$Reader", "openCount", "I", false)
  | 9 => ("IsHeIn$Reader", "length", "I", false)
  | 10 => ("IsHeIn$Reader", "fault", "I", false)
  | 11 => ("IsHeIn$Reader", "faultPlace", "I", false)
  | 12 => ("IsHeIn$Reader", "token", "I", false)
  | 13 => ("IsHeIn$Reader", "place", "I", false)
  | 14 => ("IsHeIn$Reader", "kind", "I", false)
  | 15 => ("IsHeIn$Reader", "value", "I", false)
  | _ => ("IsHeIn$Reader", "start", "I", false)
def tyX7 : Nat → FieldType := fun k => match k with
  | 0 => .object "IsHeIn$Table"
  | 1 => .object "IsHeIn$Table"
  | 2 => .object "IsHeIn$Table"
  | 3 => .object "IsHeIn$Table"
  | 4 => .array .int
  | 5 => .object "IsHeIn$Table"
  | 6 => .array .int
  | 7 => .int
  | 8 => .int
  | 9 => .int
  | 10 => .int
  | 11 => .int
  | 12 => .int
  | 13 => .int
  | 14 => .int
  | 15 => .int
  | _ => .int
theorem nmX7 : ∀ a, a < 17 → ∀ b, b < 17 → a ≠ b → (TX7 a).2.1 ≠ (TX7 b).2.1 := by decide +kernel
theorem tyX7_ok : ∀ k, k < 17 → parseFieldDescriptor (TX7 k).2.2.1 = some (tyX7 k) := by decide +kernel
def RX8 : String := "IsHeIn$Records"
def TX8 : u_T := fun k => match k with
  | _ => ("IsHeIn$Records", "house", "LIsHeIn$House;", true)
def tyX8 : Nat → FieldType := fun k => match k with
  | _ => .object "IsHeIn$House"
theorem nmX8 : ∀ a, a < 1 → ∀ b, b < 1 → a ≠ b → (TX8 a).2.1 ≠ (TX8 b).2.1 := by decide +kernel
theorem tyX8_ok : ∀ k, k < 1 → parseFieldDescriptor (TX8 k).2.2.1 = some (tyX8 k) := by decide +kernel
def RX9 : String := "IsHeIn$Rounds"
def TX9 : u_T := fun k => match k with
  | 0 => ("IsHeIn$Rounds", "house", "LIsHeIn$House;", true)
  | 1 => ("IsHeIn$Rounds", "belief", "LIsHeIn$Belief;", true)
  | 2 => ("IsHeIn$Rounds", "sures", "[I", true)
  | 3 => ("IsHeIn$Rounds", "onFloor", "[I", true)
  | 4 => ("IsHeIn$Rounds", "row", "[I", true)
  | 5 => ("IsHeIn$Rounds", "bestRow", "[I", true)
  | 6 => ("IsHeIn$Rounds", "bestLength", "I", false)
  | _ => ("IsHeIn$Rounds", "mostFound", "J", false)
def tyX9 : Nat → FieldType := fun k => match k with
  | 0 => .object "IsHeIn$House"
  | 1 => .object "IsHeIn$Belief"
  | 2 => .array .int
  | 3 => .array .int
  | 4 => .array .int
  | 5 => .array .int
  | 6 => .int
  | _ => .long
theorem nmX9 : ∀ a, a < 8 → ∀ b, b < 8 → a ≠ b → (TX9 a).2.1 ≠ (TX9 b).2.1 := by decide +kernel
theorem tyX9_ok : ∀ k, k < 8 → parseFieldDescriptor (TX9 k).2.2.1 = some (tyX9 k) := by decide +kernel
def RX10 : String := "IsHeIn$Table"
def TX10 : u_T := fun k => match k with
  | 0 => ("IsHeIn$Table", "most", "I", true)
  | 1 => ("IsHeIn$Table", "width", "I", true)
  | 2 => ("IsHeIn$Table", "cells", "[I", true)
  | _ => ("IsHeIn$Table", "rows", "I", false)
def tyX10 : Nat → FieldType := fun k => match k with
  | 0 => .int
  | 1 => .int
  | 2 => .array .int
  | _ => .int
theorem nmX10 : ∀ a, a < 4 → ∀ b, b < 4 → a ≠ b → (TX10 a).2.1 ≠ (TX10 b).2.1 := by decide +kernel
theorem tyX10_ok : ∀ k, k < 4 → parseFieldDescriptor (TX10 k).2.2.1 = some (tyX10 k) := by decide +kernel
def RX11 : String := "IsHeIn"
def TX11 : u_T := fun k => match k with
  | 0 => ("IsHeIn", "house", "LIsHeIn$House;", true)
  | 1 => ("IsHeIn", "kept", "LIsHeIn$House;", true)
  | 2 => ("IsHeIn", "isKept", "Z", false)
  | 3 => ("IsHeIn", "past", "LIsHeIn$Past;", true)
  | 4 => ("IsHeIn", "reader", "LIsHeIn$Reader;", true)
  | 5 => ("IsHeIn", "law", "LIsHeIn$Law;", true)
  | 6 => ("IsHeIn", "porter", "LIsHeIn$Porter;", true)
  | 7 => ("IsHeIn", "belief", "LIsHeIn$Belief;", true)
  | 8 => ("IsHeIn", "foresight", "LIsHeIn$Foresight;", true)
  | 9 => ("IsHeIn", "records", "LIsHeIn$Records;", true)
  | _ => ("IsHeIn", "rounds", "LIsHeIn$Rounds;", true)
def tyX11 : Nat → FieldType := fun k => match k with
  | 0 => .object "IsHeIn$House"
  | 1 => .object "IsHeIn$House"
  | 2 => .boolean
  | 3 => .object "IsHeIn$Past"
  | 4 => .object "IsHeIn$Reader"
  | 5 => .object "IsHeIn$Law"
  | 6 => .object "IsHeIn$Porter"
  | 7 => .object "IsHeIn$Belief"
  | 8 => .object "IsHeIn$Foresight"
  | 9 => .object "IsHeIn$Records"
  | _ => .object "IsHeIn$Rounds"
theorem nmX11 : ∀ a, a < 11 → ∀ b, b < 11 → a ≠ b → (TX11 a).2.1 ≠ (TX11 b).2.1 := by decide +kernel
theorem tyX11_ok : ∀ k, k < 11 → parseFieldDescriptor (TX11 k).2.2.1 = some (tyX11 k) := by decide +kernel
def RX12 : String := "IsHeInModel"
def TX12 : u_T := fun k => match k with
  | 0 => ("IsHeInModel", "w", "[I", true)
  | 1 => ("IsHeInModel", "kept", "[I", true)
  | 2 => ("IsHeInModel", "back", "[I", true)
  | 3 => ("IsHeInModel", "backMany", "I", false)
  | 4 => ("IsHeInModel", "hasImage", "Z", false)
  | 5 => ("IsHeInModel", "freshLine", "[I", true)
  | 6 => ("IsHeInModel", "freshStep", "[I", true)
  | 7 => ("IsHeInModel", "freshRow", "[I", true)
  | 8 => ("IsHeInModel", "tape", "[I", true)
  | 9 => ("IsHeInModel", "pile", "[I", true)
  | 10 => ("IsHeInModel", "facts", "[I", true)
  | 11 => ("IsHeInModel", "reading", "I", false)
  | 12 => ("IsHeInModel", "lines", "I", false)
  | 13 => ("IsHeInModel", "steps", "I", false)
  | 14 => ("IsHeInModel", "rows", "I", false)
  | 15 => ("IsHeInModel", "taped", "I", false)
  | 16 => ("IsHeInModel", "at", "I", false)
  | 17 => ("IsHeInModel", "token", "I", false)
  | 18 => ("IsHeInModel", "tokenAt", "I", false)
  | 19 => ("IsHeInModel", "value", "I", false)
  | 20 => ("IsHeInModel", "wrong", "I", false)
  | 21 => ("IsHeInModel", "wrongAt", "I", false)
  | 22 => ("IsHeInModel", "faultKind", "I", false)
  | 23 => ("IsHeInModel", "depth", "I", false)
  | 24 => ("IsHeInModel", "faultPlace", "I", false)
  | 25 => ("IsHeInModel", "numbered", "I", false)
  | 26 => ("IsHeInModel", "chance", "[J", true)
  | 27 => ("IsHeInModel", "others", "[J", true)
  | 28 => ("IsHeInModel", "onFloor", "[J", true)
  | 29 => ("IsHeInModel", "way", "[I", true)
  | 30 => ("IsHeInModel", "bestWay", "[I", true)
  | 31 => ("IsHeInModel", "mostFound", "J", false)
  | 32 => ("IsHeInModel", "bestLong", "I", false)
  | 33 => ("IsHeInModel", "seenAt", "[I", true)
  | _ => ("IsHeInModel", "mostFrom", "[I", true)
def tyX12 : Nat → FieldType := fun k => match k with
  | 0 => .array .int
  | 1 => .array .int
  | 2 => .array .int
  | 3 => .int
  | 4 => .boolean
  | 5 => .array .int
  | 6 => .array .int
  | 7 => .array .int
  | 8 => .array .int
  | 9 => .array .int
  | 10 => .array .int
  | 11 => .int
  | 12 => .int
  | 13 => .int
  | 14 => .int
  | 15 => .int
  | 16 => .int
  | 17 => .int
  | 18 => .int
  | 19 => .int
  | 20 => .int
  | 21 => .int
  | 22 => .int
  | 23 => .int
  | 24 => .int
  | 25 => .int
  | 26 => .array .long
  | 27 => .array .long
  | 28 => .array .long
  | 29 => .array .int
  | 30 => .array .int
  | 31 => .long
  | 32 => .int
  | 33 => .array .int
  | _ => .array .int
theorem nmX12 : ∀ a, a < 35 → ∀ b, b < 35 → a ≠ b → (TX12 a).2.1 ≠ (TX12 b).2.1 := by decide +kernel
theorem tyX12_ok : ∀ k, k < 35 → parseFieldDescriptor (TX12 k).2.2.1 = some (tyX12 k) := by decide +kernel
/-- the classes whose objects the world holds -/
def m_cl : List vw_C := [(RX0, TX0, 5), (RX1, TX1, 4), (RX2, TX2, 12), (RX3, TX3, 3), (RX4, TX4, 4), (RX5, TX5, 3), (RX6, TX6, 3), (RX7, TX7, 17), (RX8, TX8, 1), (RX9, TX9, 8), (RX10, TX10, 4), (RX11, TX11, 11), (RX12, TX12, 35)]
def m_ty : Nat → Nat → FieldType := fun c => match c with
  | 0 => tyX0
  | 1 => tyX1
  | 2 => tyX2
  | 3 => tyX3
  | 4 => tyX4
  | 5 => tyX5
  | 6 => tyX6
  | 7 => tyX7
  | 8 => tyX8
  | 9 => tyX9
  | 10 => tyX10
  | 11 => tyX11
  | _ => tyX12
def m_df : Nat → List Value := fun c => match c with
  | 0 => [.null, .null, .null, .null, .null]
  | 1 => [.null, .null, .null, .null]
  | 2 => [.null, .null, .null, .null, .null, .null, .null, .null, .int 0, .int 0, .int 0, .int 0]
  | 3 => [.null, .null, .null]
  | 4 => [.null, .int 0, .int 0, .int 0]
  | 5 => [.null, .int 0, .int 0]
  | 6 => [.null, .null, .null]
  | 7 => [.null, .null, .null, .null, .null, .null, .null, .int 0, .int 0, .int 0, .int 0, .int 0, .int 0, .int 0, .int 0, .int 0, .int 0]
  | 8 => [.null]
  | 9 => [.null, .null, .null, .null, .null, .null, .int 0, .long 0]
  | 10 => [.int 0, .int 0, .null, .int 0]
  | 11 => [.null, .null, .int 0, .null, .null, .null, .null, .null, .null, .null, .null]
  | _ => [.null, .null, .null, .int 0, .int 0, .null, .null, .null, .null, .null, .null, .int 0, .int 0, .int 0, .int 0, .int 0, .int 0, .int 0, .int 0, .int 0, .int 0, .int 0, .int 0, .int 0, .int 0, .int 0, .null, .null, .null, .null, .null, .long 0, .int 0, .null, .null]
def m_nest : List Cond := [(Jvm.Cond.methodLinkNest "IsHeIn" (11 : Nat) ({ cls := "IsHeIn$House", name := "<init>", desc := "()V" } : Jvm.MethodName) "IsHeIn"), (Jvm.Cond.methodLinkNest "IsHeIn$Past" (24 : Nat) ({ cls := "IsHeIn$Moment", name := "<init>", desc := "()V" } : Jvm.MethodName) "IsHeIn"), (Jvm.Cond.methodLinkNest "IsHeIn" (32 : Nat) ({ cls := "IsHeIn$Reader", name := "<init>", desc := "()V" } : Jvm.MethodName) "IsHeIn"), (Jvm.Cond.methodLinkNest "IsHeIn$Law" (22 : Nat) ({ cls := "IsHeIn", name := "put", desc := "([III)V" } : Jvm.MethodName) "IsHeIn"), (Jvm.Cond.methodLinkNest "IsHeIn$Law" (69 : Nat) ({ cls := "IsHeIn", name := "cell", desc := "([II)I" } : Jvm.MethodName) "IsHeIn"), (Jvm.Cond.fieldLinkNest "IsHeIn$Law" (73 : Nat) "IsHeIn" "UNTOLD" "[I" "IsHeIn"), (Jvm.Cond.methodLinkNest "IsHeIn$Porter" (78 : Nat) ({ cls := "IsHeIn", name := "cell", desc := "([II)I" } : Jvm.MethodName) "IsHeIn"), (Jvm.Cond.methodLinkNest "IsHeIn$Reader" (70 : Nat) ({ cls := "IsHeIn", name := "put", desc := "([III)V" } : Jvm.MethodName) "IsHeIn"), (Jvm.Cond.methodLinkNest "IsHeIn$Reader" (112 : Nat) ({ cls := "IsHeIn", name := "cell", desc := "([II)I" } : Jvm.MethodName) "IsHeIn"), (Jvm.Cond.methodLinkNest "IsHeIn$Reader" (173 : Nat) ({ cls := "IsHeIn", name := "isWithin", desc := "(III)Z" } : Jvm.MethodName) "IsHeIn"), (Jvm.Cond.methodLinkNest "IsHeIn$Belief" (64 : Nat) ({ cls := "IsHeIn", name := "cell", desc := "([II)I" } : Jvm.MethodName) "IsHeIn"), (Jvm.Cond.methodLinkNest "IsHeIn$Belief" (96 : Nat) ({ cls := "IsHeIn", name := "put", desc := "([III)V" } : Jvm.MethodName) "IsHeIn"), (Jvm.Cond.methodLinkNest "IsHeIn$Belief" (110 : Nat) ({ cls := "IsHeIn", name := "share", desc := "(II)I" } : Jvm.MethodName) "IsHeIn"), (Jvm.Cond.methodLinkNest "IsHeIn$Rounds" (61 : Nat) ({ cls := "IsHeIn", name := "put", desc := "([III)V" } : Jvm.MethodName) "IsHeIn"), (Jvm.Cond.methodLinkNest "IsHeIn$Rounds" (68 : Nat) ({ cls := "IsHeIn", name := "cell", desc := "([II)I" } : Jvm.MethodName) "IsHeIn")]
/-- the String constants: owner, place in its pool, text -/
def m_str : List (String × Nat × String) := [("IsHeIn$Reader", 145, "go come carry stray front prior guest floor age clock day pear rain board since when or and not sign in out clerk from for at "), ("IsHeInModel", 135, "when"), ("IsHeInModel", 137, "or"), ("IsHeInModel", 139, "and"), ("IsHeInModel", 141, "not"), ("IsHeInModel", 114, "guest"), ("IsHeInModel", 116, "floor"), ("IsHeInModel", 118, "age"), ("IsHeInModel", 120, "clock"), ("IsHeInModel", 122, "day"), ("IsHeInModel", 124, "pear"), ("IsHeInModel", 126, "rain"), ("IsHeInModel", 128, "board"), ("IsHeInModel", 130, "since"), ("IsHeInModel", 98, "go"), ("IsHeInModel", 104, "come"), ("IsHeInModel", 106, "carry"), ("IsHeInModel", 108, "stray"), ("IsHeInModel", 110, "front"), ("IsHeInModel", 112, "prior"), ("IsHeInModel", 146, "sign"), ("IsHeInModel", 148, "in"), ("IsHeInModel", 150, "out"), ("IsHeInModel", 152, "clerk"), ("IsHeInModel", 154, "from"), ("IsHeInModel", 156, "for"), ("IsHeInModel", 158, "at")]
def m_sb : List (List Int32) := [[103, 111, 32, 99, 111, 109, 101, 32, 99, 97, 114, 114, 121, 32, 115, 116, 114, 97, 121, 32, 102, 114, 111, 110, 116, 32, 112, 114, 105, 111, 114, 32, 103, 117, 101, 115, 116, 32, 102, 108, 111, 111, 114, 32, 97, 103, 101, 32, 99, 108, 111, 99, 107, 32, 100, 97, 121, 32, 112, 101, 97, 114, 32, 114, 97, 105, 110, 32, 98, 111, 97, 114, 100, 32, 115, 105, 110, 99, 101, 32, 119, 104, 101, 110, 32, 111, 114, 32, 97, 110, 100, 32, 110, 111, 116, 32, 115, 105, 103, 110, 32, 105, 110, 32, 111, 117, 116, 32, 99, 108, 101, 114, 107, 32, 102, 114, 111, 109, 32, 102, 111, 114, 32, 97, 116, 32], [119, 104, 101, 110], [111, 114], [97, 110, 100], [110, 111, 116], [103, 117, 101, 115, 116], [102, 108, 111, 111, 114], [97, 103, 101], [99, 108, 111, 99, 107], [100, 97, 121], [112, 101, 97, 114], [114, 97, 105, 110], [98, 111, 97, 114, 100], [115, 105, 110, 99, 101], [103, 111], [99, 111, 109, 101], [99, 97, 114, 114, 121], [115, 116, 114, 97, 121], [102, 114, 111, 110, 116], [112, 114, 105, 111, 114], [115, 105, 103, 110], [105, 110], [111, 117, 116], [99, 108, 101, 114, 107], [102, 114, 111, 109], [102, 111, 114], [97, 116]]
end
section
/-! the classes' rows in the tables -/
theorem m_lay0 : m_cl.all (fun q => (u_ws q.1 q.2.1 q.2.2).all (fun w => decide (w ∈ lw_tbl) && goodWord w)) = true := by decide +kernel
theorem m_clty : ∀ c, c < 13 → match m_cl[c]? with
    | some q => (∀ k, k < q.2.2 → parseFieldDescriptor (q.2.1 k).2.2.1 = some (m_ty c k)) ∧ (∀ a, a < q.2.2 → ∀ b, b < q.2.2 → a ≠ b → (q.2.1 a).2.1 ≠ (q.2.1 b).2.1)
    | none => True := by
  intro c hc
  match c, hc with
  | 0, _ => exact ⟨tyX0_ok, nmX0⟩
  | 1, _ => exact ⟨tyX1_ok, nmX1⟩
  | 2, _ => exact ⟨tyX2_ok, nmX2⟩
  | 3, _ => exact ⟨tyX3_ok, nmX3⟩
  | 4, _ => exact ⟨tyX4_ok, nmX4⟩
  | 5, _ => exact ⟨tyX5_ok, nmX5⟩
  | 6, _ => exact ⟨tyX6_ok, nmX6⟩
  | 7, _ => exact ⟨tyX7_ok, nmX7⟩
  | 8, _ => exact ⟨tyX8_ok, nmX8⟩
  | 9, _ => exact ⟨tyX9_ok, nmX9⟩
  | 10, _ => exact ⟨tyX10_ok, nmX10⟩
  | 11, _ => exact ⟨tyX11_ok, nmX11⟩
  | 12, _ => exact ⟨tyX12_ok, nmX12⟩
  | c + 13, h => exact absurd h (by omega)
theorem m_clok {c : Nat} {C : String} {T : u_T} {n : Nat} (h : m_cl[c]? = some (C, T, n)) : (∀ w ∈ u_ws C T n, w ∈ lw_tbl ∧ goodWord w = true) ∧ (∀ k, k < n → parseFieldDescriptor (T k).2.2.1 = some (m_ty c k)) ∧ (∀ a, a < n → ∀ b, b < n → a ≠ b → (T a).2.1 ≠ (T b).2.1) := by
  have hc : c < 13 := (List.getElem?_eq_some_iff.mp h).1
  have h2 := m_clty c hc
  rw [h] at h2
  have h3 := List.all_eq_true.mp m_lay0 _ (List.mem_of_getElem? h)
  refine ⟨fun w hw => ?_, h2.1, h2.2⟩
  have h4 := List.all_eq_true.mp h3 w hw
  simpa [Bool.and_eq_true, decide_eq_true_eq] using h4
/-- what a new object holds: nothing yet -/
theorem m_dfok : ∀ c, c < 13 → match m_cl[c]? with
    | some q => (m_df c).length = q.2.2 ∧ ∀ j, j < q.2.2 → (m_df c)[j]? = some (defaultValue (m_ty c j))
    | none => True := by
  intro c hc
  match c, hc with
  | 0, _ => exact ⟨by decide +kernel, by decide +kernel⟩
  | 1, _ => exact ⟨by decide +kernel, by decide +kernel⟩
  | 2, _ => exact ⟨by decide +kernel, by decide +kernel⟩
  | 3, _ => exact ⟨by decide +kernel, by decide +kernel⟩
  | 4, _ => exact ⟨by decide +kernel, by decide +kernel⟩
  | 5, _ => exact ⟨by decide +kernel, by decide +kernel⟩
  | 6, _ => exact ⟨by decide +kernel, by decide +kernel⟩
  | 7, _ => exact ⟨by decide +kernel, by decide +kernel⟩
  | 8, _ => exact ⟨by decide +kernel, by decide +kernel⟩
  | 9, _ => exact ⟨by decide +kernel, by decide +kernel⟩
  | 10, _ => exact ⟨by decide +kernel, by decide +kernel⟩
  | 11, _ => exact ⟨by decide +kernel, by decide +kernel⟩
  | 12, _ => exact ⟨by decide +kernel, by decide +kernel⟩
  | c + 13, h => exact absurd h (by omega)
end
section
/-! THE SMALL MACHINE: the bytecode run over a heap of numbered cells, as a function. A heap: shapes (arrays: kind, length, contents if of references; objects: class, fields, where '.int 0' and '.long 0' only say of which kind a field is), the ints and the longs by cell and place. -/
abbrev mS : Type := (Nat × Nat × List (Option Nat)) ⊕ (Nat × List Value)
abbrev mH : Type := List mS × (Nat → Nat → Int32) × (Nat → Nat → Int64)
abbrev mF : Type := Nat × List (Option Value) × List Value × mH
abbrev mI : Type := Nat × Instr × List Int
/-- a method: kind (0 static, 1 virtual, 2 constructor), name, bytes, locals, result, class of the receiver, places of its words, instructions -/
abbrev mM : Type := Nat × MethodName × ByteArray × Nat × Option FieldType × Nat × List Nat × List mI
def mu (D : Nat → Nat → Int32) (i k : Nat) (x : Int32) : Nat → Nat → Int32 := fun a => if a = i then (fun b => if b = k then x else D a b) else D a
def muL (D : Nat → Nat → Int64) (i k : Nat) (x : Int64) : Nat → Nat → Int64 := fun a => if a = i then (fun b => if b = k then x else D a b) else D a
def mz (D : Nat → Nat → Int32) (i : Nat) : Nat → Nat → Int32 := fun a => if a = i then (fun _ => 0) else D a
def mzL (D : Nat → Nat → Int64) (i : Nat) : Nat → Nat → Int64 := fun a => if a = i then (fun _ => 0) else D a
/-- the slots of all shapes together -/
def m_sl1 : mS → Nat
  | .inl (_, n, _) => n
  | .inr (_, fs) => fs.length
def m_sl : List mS → Nat
  | [] => 0
  | a :: r => m_sl1 a + m_sl r
/-- what was the static row of numbers -/
def m_unt : List Int32 := [100, 200, 300, 0, 500]
def m_len (ins : Instr) (aux : List Int) : Nat := match ins with
  | .bipush _ | .newarray _ | .ldc _ | .iload _ | .lload _ | .aload _ | .istore _ | .lstore _ | .astore _ => 2
  | .sipush _ | .ldc_w _ | .ldc2_w _ | .iinc _ _ | .goto _ | .ifCond _ _ | .if_icmp _ _ | .ifnull _ | .ifnonnull _ | .getfield _ | .putfield _ | .getstatic _ | .new _ | .anewarray _ | .invokevirtual _ | .invokespecial _ | .invokestatic _ => 3
  | .tableswitch _ _ _ _ => match aux with
    | [n] => n.toNat
    | _ => 0
  | _ => 1
/-- a value into local i: of one place .. -/
def m_s1 (ls : List (Option Value)) (i : Nat) (v : Value) : Option (List (Option Value)) :=
  if i < ls.length then
    match i with
    | 0 => some (ls.set 0 (some v))
    | k + 1 => match ls[k]? with
      | some (some (.long _)) => some ((ls.set (k + 1) (some v)).set k none)
      | some (some (.double _)) => none
      | _ => some (ls.set (k + 1) (some v))
  else none
/-- .. and of two -/
def m_s2 (ls : List (Option Value)) (i : Nat) (v : Value) : Option (List (Option Value)) :=
  if i + 1 < ls.length then
    match i with
    | 0 => some ((ls.set 0 (some v)).set 1 none)
    | k + 1 => match ls[k]? with
      | some (some (.long _)) => some (((ls.set (k + 1) (some v)).set (k + 2) none).set k none)
      | some (some (.double _)) => none
      | _ => some ((ls.set (k + 1) (some v)).set (k + 2) none)
  else none
def m_li (ls : List (Option Value)) (i : Nat) : Option Int32 := match ls[i]? with
  | some (some (.int x)) => some x
  | _ => none
def m_ll (ls : List (Option Value)) (i : Nat) : Option Int64 := match ls[i]? with
  | some (some (.long x)) => some x
  | _ => none
def m_la (ls : List (Option Value)) (i : Nat) : Option Value := match ls[i]? with
  | some (some (.ref j)) => some (.ref j)
  | some (some .null) => some .null
  | _ => none
/-- where a jump goes -/
def m_to (pc : Nat) (off : Int) : Nat := ((pc : Int) + off).toNat
def m_if (c : ClassFile.Cond) (x y : Int32) (a b : Nat) : Nat := match c with
  | .eq => if x = y then a else b
  | .ne => if x = y then b else a
  | .lt => if x < y then a else b
  | .ge => if y ≤ x then a else b
  | .gt => if y < x then a else b
  | .le => if x ≤ y then a else b
/-- consts and locals -/
def m_op1 (ins : Instr) (aux : List Int) (pc : Nat) (ls : List (Option Value)) (st : List Value) (h : mH) : Option mF := match ins with
  | .iconst n => some (pc + 1, ls, .int (Int32.ofInt n) :: st, h)
  | .bipush n => some (pc + 2, ls, .int (Int8.ofInt n).toInt32 :: st, h)
  | .sipush n => some (pc + 3, ls, .int (Int16.ofInt n).toInt32 :: st, h)
  | .lconst n => some (pc + 1, ls, .long (Int64.ofNat (n : Nat)) :: st, h)
  | .aconst_null => some (pc + 1, ls, .null :: st, h)
  | .ldc _ => match aux with
    | [0, v, _] => some (pc + 2, ls, .int (Int32.ofInt v) :: st, h)
    | [1, k, _] => if k.toNat < 27 then some (pc + 2, ls, .ref (1000100 + k.toNat) :: st, h) else none
    | _ => none
  | .ldc_w _ => match aux with
    | [0, v, _] => some (pc + 3, ls, .int (Int32.ofInt v) :: st, h)
    | _ => none
  | .ldc2_w _ => match aux with
    | [v, _] => some (pc + 3, ls, .long (Int64.ofInt v) :: st, h)
    | _ => none
  | .iload_n k => match m_li ls k with
    | some x => some (pc + 1, ls, .int x :: st, h)
    | none => none
  | .iload k => match m_li ls k with
    | some x => some (pc + 2, ls, .int x :: st, h)
    | none => none
  | .lload_n k => match m_ll ls k with
    | some x => some (pc + 1, ls, .long x :: st, h)
    | none => none
  | .lload k => match m_ll ls k with
    | some x => some (pc + 2, ls, .long x :: st, h)
    | none => none
  | .aload_n k => match m_la ls k with
    | some x => some (pc + 1, ls, x :: st, h)
    | none => none
  | .aload k => match m_la ls k with
    | some x => some (pc + 2, ls, x :: st, h)
    | none => none
  | .istore_n k => match st with
    | .int x :: r => match m_s1 ls k (.int x) with
      | some l => some (pc + 1, l, r, h)
      | none => none
    | _ => none
  | .istore k => match st with
    | .int x :: r => match m_s1 ls k (.int x) with
      | some l => some (pc + 2, l, r, h)
      | none => none
    | _ => none
  | .lstore_n k => match st with
    | .long x :: r => match m_s2 ls k (.long x) with
      | some l => some (pc + 1, l, r, h)
      | none => none
    | _ => none
  | .lstore k => match st with
    | .long x :: r => match m_s2 ls k (.long x) with
      | some l => some (pc + 2, l, r, h)
      | none => none
    | _ => none
  | .astore_n k => match st with
    | .ref x :: r => match m_s1 ls k (.ref x) with
      | some l => some (pc + 1, l, r, h)
      | none => none
    | .null :: r => match m_s1 ls k .null with
      | some l => some (pc + 1, l, r, h)
      | none => none
    | _ => none
  | .astore k => match st with
    | .ref x :: r => match m_s1 ls k (.ref x) with
      | some l => some (pc + 2, l, r, h)
      | none => none
    | .null :: r => match m_s1 ls k .null with
      | some l => some (pc + 2, l, r, h)
      | none => none
    | _ => none
  | .iinc k n => match m_li ls k with
    | some x => match m_s1 ls k (.int (x + Int32.ofInt n)) with
      | some l => some (pc + 3, l, st, h)
      | none => none
    | none => none
  | _ => none
/-- numbers, the stack, jumps -/
def m_op2 (ins : Instr) (pc : Nat) (ls : List (Option Value)) (st : List Value) (h : mH) : Option mF := match ins, st with
  | .iadd, .int y :: .int x :: r => some (pc + 1, ls, .int (x + y) :: r, h)
  | .isub, .int y :: .int x :: r => some (pc + 1, ls, .int (x - y) :: r, h)
  | .imul, .int y :: .int x :: r => some (pc + 1, ls, .int (x * y) :: r, h)
  | .iand, .int y :: .int x :: r => some (pc + 1, ls, .int (x &&& y) :: r, h)
  | .ior, .int y :: .int x :: r => some (pc + 1, ls, .int (x ||| y) :: r, h)
  | .idiv, .int y :: .int x :: r => if y = 0 then none else some (pc + 1, ls, .int (x / y) :: r, h)
  | .irem, .int y :: .int x :: r => if y = 0 then none else some (pc + 1, ls, .int (x - x / y * y) :: r, h)
  | .ineg, .int x :: r => some (pc + 1, ls, .int (0 - x) :: r, h)
  | .ishl, .int y :: .int x :: r => some (pc + 1, ls, .int (x <<< (y &&& 31)) :: r, h)
  | .ishr, .int y :: .int x :: r => some (pc + 1, ls, .int (x >>> (y &&& 31)) :: r, h)
  | .iushr, .int y :: .int x :: r => some (pc + 1, ls, .int (x.toUInt32 >>> (y.toUInt32 &&& Int32.toUInt32 31)).toInt32 :: r, h)
  | .ladd, .long y :: .long x :: r => some (pc + 1, ls, .long (x + y) :: r, h)
  | .lsub, .long y :: .long x :: r => some (pc + 1, ls, .long (x - y) :: r, h)
  | .lmul, .long y :: .long x :: r => some (pc + 1, ls, .long (x * y) :: r, h)
  | .ldiv, .long y :: .long x :: r => if y = 0 then none else some (pc + 1, ls, .long (x / y) :: r, h)
  | .lcmp, .long y :: .long x :: r => some (pc + 1, ls, .int (lg_cmp x y) :: r, h)
  | .i2l, .int x :: r => some (pc + 1, ls, .long x.toInt64 :: r, h)
  | .l2i, .long x :: r => some (pc + 1, ls, .int x.toInt32 :: r, h)
  | .i2c, .int x :: r => some (pc + 1, ls, .int (x.toUInt32 % 65536).toInt32 :: r, h)
  | .dup, .int x :: r => some (pc + 1, ls, .int x :: .int x :: r, h)
  | .dup, .ref x :: r => some (pc + 1, ls, .ref x :: .ref x :: r, h)
  | .dup2, .int x :: .ref y :: r => some (pc + 1, ls, .int x :: .ref y :: .int x :: .ref y :: r, h)
  | .pop, .int _ :: r => some (pc + 1, ls, r, h)
  | .goto off, st => some (m_to pc off, ls, st, h)
  | .ifCond c off, .int x :: r => some (m_if c x 0 (m_to pc off) (pc + 3), ls, r, h)
  | .if_icmp c off, .int y :: .int x :: r => some (m_if c x y (m_to pc off) (pc + 3), ls, r, h)
  | .ifnull off, .null :: r => some (m_to pc off, ls, r, h)
  | .ifnull _, .ref _ :: r => some (pc + 3, ls, r, h)
  | .ifnonnull _, .null :: r => some (pc + 3, ls, r, h)
  | .ifnonnull off, .ref _ :: r => some (m_to pc off, ls, r, h)
  | .tableswitch d lo hi offs, .int x :: r => if x.toInt < lo ∨ hi < x.toInt then some (m_to pc d, ls, r, h) else match offs.toList[(x.toInt - lo).toNat]? with
    | some o => some (m_to pc o, ls, r, h)
    | none => none
  | _, _ => none
def m_gf (h : mH) (i c k : Nat) : Option Value := match h.1[i]? with
  | some (.inr (c', fs)) => if c' = c then match fs[k]? with
      | some (.int _) => some (.int (h.2.1 i k))
      | some (.long _) => some (.long (h.2.2 i k))
      | some (.ref j) => some (.ref j)
      | some .null => some .null
      | _ => none
    else none
  | _ => none
def m_pf (h : mH) (i c k : Nat) (kd : Int) (v : Value) : Option mH := match h.1[i]? with
  | some (.inr (c', fs)) => if c' = c then match fs[k]?, v with
      | some (.int _), .int x => if kd = 0 then some (h.1, mu h.2.1 i k x, h.2.2) else if kd = 3 then (if x = 0 ∨ x = 1 then some (h.1, mu h.2.1 i k x, h.2.2) else none) else none
      | some (.long _), .long x => if kd = 1 then some (h.1, h.2.1, muL h.2.2 i k x) else none
      | some .null, .ref j => if kd = 2 then some (h.1.set i (.inr (c', fs.set k (.ref j))), h.2.1, h.2.2) else none
      | _, _ => none
    else none
  | _ => none
/-- the length of an array by its number -/
def m_al (N : Nat) (h : mH) (j : Nat) : Option Nat := match h.1[j]? with
  | some (.inl (k, n, _)) => if k < 3 then some n else none
  | some (.inr _) => none
  | none => if j = 1000000 then some N else if j = 1000001 then some 5 else if 1000200 ≤ j ∧ j < 1000227 then some (m_sb.getD (j - 1000200) []).length else none
/-- an int out of an array -/
def m_ia (N : Nat) (xs : Nat → Int32) (h : mH) (j : Nat) (i : Int32) : Option Int32 := match h.1[j]? with
  | some (.inl (0, n, _)) => if i < 0 ∨ n ≤ i.toNatClampNeg then none else some (h.2.1 j i.toNatClampNeg)
  | some _ => none
  | none => if j = 1000000 then (if i < 0 ∨ N ≤ i.toNatClampNeg then none else some (xs i.toNatClampNeg)) else if j = 1000001 then (if i < 0 ∨ 5 ≤ i.toNatClampNeg then none else some (m_unt.getD i.toNatClampNeg 0)) else none
/-- Math's own: abs, max, max of longs, min -/
def m_math (aux : List Int) (pc : Nat) (ls : List (Option Value)) (st : List Value) (h : mH) : Option mF := match aux, st with
  | [_, 0, _], .int x :: r => if (r.map fun v => v.category).sum ≤ 7 then some (pc + 3, ls, .int (if 0 ≤ x then x else 0 - x) :: r, h) else none
  | [_, 1, _], .int y :: .int x :: r => if (r.map fun v => v.category).sum ≤ 7 then some (pc + 3, ls, .int (if x < y then y else x) :: r, h) else none
  | [_, 2, _], .long y :: .long x :: r => if (r.map fun v => v.category).sum ≤ 7 then some (pc + 3, ls, .long (if y < x then x else y) :: r, h) else none
  | [_, 3, _], .int y :: .int x :: r => if (r.map fun v => v.category).sum ≤ 7 then some (pc + 3, ls, .int (if y < x then y else x) :: r, h) else none
  | _, _ => none
/-- fields, arrays, what is made -/
def m_op3 (N : Nat) (xs : Nat → Int32) (ins : Instr) (aux : List Int) (pc : Nat) (ls : List (Option Value)) (st : List Value) (h : mH) : Option mF := match ins, st with
  | .getfield _, .ref i :: r => match aux with
    | [c, k, _, _, _] => match m_gf h i c.toNat k.toNat with
      | some v => some (pc + 3, ls, v :: r, h)
      | none => none
    | [-1, k, _] => if 1000100 ≤ i ∧ i < 1000127 then (if k = 0 then some (pc + 3, ls, .ref (i + 100) :: r, h) else some (pc + 3, ls, .int 0 :: r, h)) else none
    | _ => none
  | .putfield _, v :: .ref i :: r => match aux with
    | [c, k, _, kd, _] => match m_pf h i c.toNat k.toNat kd v with
      | some h' => some (pc + 3, ls, r, h')
      | none => none
    | _ => none
  | .getstatic _, st => match aux with
    | [0, _] => some (pc + 3, ls, .ref 1000001 :: st, h)
    | [1, _] => some (pc + 3, ls, .int 1 :: st, h)
    | [2, _] => some (pc + 3, ls, .retAddr 0 :: st, h)
    | _ => none
  | .arraylength, .ref j :: r => match m_al N h j with
    | some n => some (pc + 1, ls, .int (Int32.ofNat n) :: r, h)
    | none => none
  | .iaload, .int i :: .ref j :: r => match m_ia N xs h j i with
    | some x => some (pc + 1, ls, .int x :: r, h)
    | none => none
  | .laload, .int i :: .ref j :: r => match h.1[j]? with
    | some (.inl (1, n, _)) => if i < 0 ∨ n ≤ i.toNatClampNeg then none else some (pc + 1, ls, .long (h.2.2 j i.toNatClampNeg) :: r, h)
    | _ => none
  | .aaload, .int i :: .ref j :: r => match h.1[j]? with
    | some (.inl (2, n, q)) => if i < 0 ∨ n ≤ i.toNatClampNeg then none else some (pc + 1, ls, (match q.getD i.toNatClampNeg none with | some a => .ref a | none => .null) :: r, h)
    | _ => none
  | .baload, .int i :: .ref j :: r => if 1000200 ≤ j ∧ j < 1000227 then (if i < 0 ∨ (m_sb.getD (j - 1000200) []).length ≤ i.toNatClampNeg then none else some (pc + 1, ls, .int ((m_sb.getD (j - 1000200) []).getD i.toNatClampNeg 0) :: r, h)) else none
  | .iastore, .int x :: .int i :: .ref j :: r => match h.1[j]? with
    | some (.inl (0, n, _)) => if i < 0 ∨ n ≤ i.toNatClampNeg then none else some (pc + 1, ls, r, (h.1, mu h.2.1 j i.toNatClampNeg x, h.2.2))
    | _ => none
  | .lastore, .long x :: .int i :: .ref j :: r => match h.1[j]? with
    | some (.inl (1, n, _)) => if i < 0 ∨ n ≤ i.toNatClampNeg then none else some (pc + 1, ls, r, (h.1, h.2.1, muL h.2.2 j i.toNatClampNeg x))
    | _ => none
  | .aastore, .ref a :: .int i :: .ref j :: r => match h.1[j]?, h.1[a]? with
    | some (.inl (2, n, q)), some (.inr (4, _)) => if i < 0 ∨ n ≤ i.toNatClampNeg then none else if i.toNatClampNeg < q.length then some (pc + 1, ls, r, (h.1.set j (.inl (2, n, q.set i.toNatClampNeg (some a))), h.2.1, h.2.2)) else none
    | _, _ => none
  | .new _, st => match aux with
    | [c, _, _, _] => if h.1.length < 1000000 then some (pc + 3, ls, .ref h.1.length :: st, (h.1 ++ [.inr (c.toNat, m_df c.toNat)], mz h.2.1 h.1.length, mzL h.2.2 h.1.length)) else none
    | _ => none
  | .newarray t, .int n :: r => if n < 0 ∨ 1000000 ≤ n.toNatClampNeg then none else if h.1.length < 1000000 then (match t with
    | .int => some (pc + 2, ls, .ref h.1.length :: r, (h.1 ++ [.inl (0, n.toNatClampNeg, [])], mz h.2.1 h.1.length, mzL h.2.2 h.1.length))
    | .long => some (pc + 2, ls, .ref h.1.length :: r, (h.1 ++ [.inl (1, n.toNatClampNeg, [])], mz h.2.1 h.1.length, mzL h.2.2 h.1.length))
    | _ => none) else none
  | .anewarray _, .int n :: r => if n < 0 ∨ 1000000 ≤ n.toNatClampNeg then none else if h.1.length < 1000000 then some (pc + 3, ls, .ref h.1.length :: r, (h.1 ++ [.inl (2, n.toNatClampNeg, List.replicate n.toNatClampNeg none)], mz h.2.1 h.1.length, mzL h.2.2 h.1.length)) else none
  | .invokespecial _, .ref _ :: r => match aux with
    | [-1, 0, _, _] => if (r.map fun v => v.category).sum ≤ 8 then some (pc + 3, ls, r, h) else none
    | _ => none
  | .invokestatic _, st => m_math aux pc ls st h
  | _, _ => none
def m_op (N : Nat) (xs : Nat → Int32) (ins : Instr) (aux : List Int) (pc : Nat) (ls : List (Option Value)) (st : List Value) (h : mH) : Option mF :=
  match m_op1 ins aux pc ls st h with
  | some f => some f
  | none => match m_op2 ins pc ls st h with
    | some f => some f
    | none => m_op3 N xs ins aux pc ls st h
/-- the instruction at pc -/
def m_at : List mI → Nat → Option (Instr × List Int)
  | [], _ => none
  | (q, i, a) :: r, pc => if q = pc then some (i, a) else m_at r pc
def m_isRet : Instr → Bool
  | .ireturn | .lreturn | .areturn | .return_ => true
  | _ => false
/-- the answer, where the method returns -/
def m_ret (ret : Option FieldType) (ins : Instr) (st : List Value) : Option (Option Value) := match ins, st with
  | .return_, [] => match ret with
    | none => some none
    | _ => none
  | .ireturn, [.int v] => match ret with
    | some .int => some (some (.int v))
    | some .boolean => if v = 0 ∨ v = 1 then some (some (.int v)) else none
    | some .char => if v.toUInt32.toUInt16.toUInt32.toInt32 = v then some (some (.int v)) else none
    | some .byte => if v.toInt8.toInt32 = v then some (some (.int v)) else none
    | _ => none
  | .lreturn, [.long v] => match ret with
    | some .long => some (some (.long v))
    | _ => none
  | .areturn, [.ref j] => match ret with
    | some (.object _) => some (some (.ref j))
    | _ => none
  | .areturn, [.null] => match ret with
    | some (.object _) => some (some .null)
    | _ => none
  | _, _ => none
/-- is it a call of a method of the table: its place, how many values it takes from the stack -/
def m_call (tab : List mM) (ins : Instr) (aux : List Int) : Option (mM × Nat) := match ins, aux with
  | .invokestatic _, [y, n, _, _] => match tab[y.toNat]? with
    | some e => if e.1 = 0 then some (e, n.toNat) else none
    | none => none
  | .invokevirtual _, [y, n, _, _] => match tab[y.toNat]? with
    | some e => if e.1 = 1 then some (e, n.toNat + 1) else none
    | none => none
  | .invokespecial _, [y, n, _, _] => if y < 0 then none else match tab[y.toNat]? with
    | some e => if e.1 = 2 then some (e, n.toNat + 1) else none
    | none => none
  | _, _ => none
/-- the receiver is of the class that is meant -/
def m_recv (h : mH) (k rc : Nat) (as : List Value) : Bool :=
  if k = 0 then true else match as with
  | .ref j :: _ => if rc = 99 then decide (1000100 ≤ j ∧ j < 1000127) else (match h.1[j]? with
    | some (.inr (c, _)) => c == rc
    | _ => false)
  | _ => false
/-- the locals at a method's entry -/
def m_en : List Value → List (Option Value)
  | [] => []
  | .long x :: r => some (.long x) :: none :: m_en r
  | .double x :: r => some (.double x) :: none :: m_en r
  | v :: r => some v :: m_en r
def m_run (tab : List mM) (N : Nat) (xs : Nat → Int32) : Nat → Nat → mM → Nat → List (Option Value) → List Value → mH → Option (Option Value × mH)
  | 0, _, _, _, _, _, _ => none
  | n + 1, d, e, pc, ls, st, h => match m_at e.2.2.2.2.2.2.2 pc with
    | none => none
    | some (ins, aux) => match m_isRet ins with
      | true => match m_ret e.2.2.2.2.1 ins st with
        | some v => some (v, h)
        | none => none
      | false => match m_call tab ins aux with
        | some (y, k) => match d with
          | 0 => none
          | d' + 1 => if k ≤ st.length ∧ ((st.drop k).map fun v => v.category).sum ≤ 8 ∧ m_recv h y.1 y.2.2.2.2.2.1 (st.take k).reverse = true ∧ (m_en (st.take k).reverse).length ≤ y.2.2.2.1 then
              match m_run tab N xs n d' y 0 (m_en (st.take k).reverse ++ List.replicate (y.2.2.2.1 - (m_en (st.take k).reverse).length) none) [] h with
              | some (v, h') => m_run tab N xs n (d' + 1) e (pc + 3) ls (v.toList ++ st.drop k) h'
              | none => none
            else none
        | none => match m_op N xs ins aux pc ls st h with
          | some (pc', ls', st', h') => m_run tab N xs n d e pc' ls' st' h'
          | none => none
end
section
/-! THE SMALL MACHINE IS THE REAL ONE: instruction by instruction -/
def m_TW : List Cond := lw_tbl.filter goodWord
theorem m_TW_in {i : Nat} {w : Cond} (h : lw_tbl[i]? = some w) (hg : goodWord w = true) : w ∈ m_TW := List.mem_filter.mpr ⟨List.mem_of_getElem? h, hg⟩
def m_w (i : Int) (w : Cond) : Bool := decide (lw_tbl[i.toNat]? = some w) && goodWord w
theorem m_w_in {i : Int} {w : Cond} (h : m_w i w = true) : w ∈ m_TW := by
  simp only [m_w, Bool.and_eq_true, decide_eq_true_eq] at h
  exact m_TW_in h.1 h.2
def m_nw (i : Int) (w : Cond) : Bool := decide (m_nest[i.toNat]? = some w)
theorem m_nw_in {i : Int} {w : Cond} (h : m_nw i w = true) : w ∈ m_nest := List.mem_of_getElem? (of_decide_eq_true h)
def m_isRefTy : FieldType → Bool
  | .object _ => true
  | .array _ => true
  | _ => false
def m_jmp (pc : Nat) (off : Int) : Bool := decide (0 ≤ (pc : Int) + off)
/-- what must be so of an instruction, beside its bytes: its words stand in the tables -/
def m_okI (own nm : String) (tab : List mM) (pc : Nat) (ins : Instr) (aux : List Int) : Bool := match ins, aux with
  | .ldc i, [0, v, pl] => m_w pl (.constant own i (Int32.ofInt v))
  | .ldc i, [1, k, _] => match m_str[k.toNat]? with
    | some (o, j, _) => decide (o = own) && decide (j = i)
    | none => false
  | .ldc_w i, [0, v, pl] => m_w pl (.constant own i (Int32.ofInt v))
  | .ldc2_w i, [v, pl] => m_w pl (.constantLong own i (Int64.ofInt v))
  | .getfield i, [c, k, pl, _, _] => match m_cl[c.toNat]? with
    | some (_, T, n) => decide (k.toNat < n) && m_w pl (.fieldLink own i (T k.toNat).1 (T k.toNat).2.1 (T k.toNat).2.2.1)
    | none => false
  | .getfield i, [-1, k, pl] => if k = 0 then m_w pl (.fieldLink own i "java/lang/String" "value" "[B") else m_w pl (.fieldLink own i "java/lang/String" "coder" "B")
  | .putfield i, [c, k, pl, kd, fin] => match m_cl[c.toNat]? with
    | some (_, T, n) => decide (k.toNat < n) && m_w pl (.fieldLink own i (T k.toNat).1 (T k.toNat).2.1 (T k.toNat).2.2.1) && (if fin = 1 then decide ((T k.toNat).2.2.2 = true) && decide (nm = "<init>") && decide ((T k.toNat).1 = own) else decide ((T k.toNat).2.2.2 = false)) && (if kd = 0 then decide (m_ty c.toNat k.toNat = .int) else if kd = 1 then decide (m_ty c.toNat k.toNat = .long) else if kd = 3 then decide (m_ty c.toNat k.toNat = .boolean) else m_isRefTy (m_ty c.toNat k.toNat))
    | none => false
  | .getstatic i, [0, pl] => m_nw pl (.fieldLinkNest own i "IsHeIn" "UNTOLD" "[I" "IsHeIn")
  | .getstatic i, [1, pl] => m_w pl (.fieldLink own i "java/lang/String" "COMPACT_STRINGS" "Z")
  | .getstatic i, [2, pl] => m_w pl (.fieldLink own i "jdk/internal/util/Preconditions" "SIOOBE_FORMATTER" "Ljava/util/function/BiFunction;")
  | .new i, [c, p1, p2, p3] => match m_cl[c.toNat]? with
    | some (C, _, n) => m_w p1 (.classLink own i C) && m_w p2 (.instantiable C n) && m_w p3 (.initialized C)
    | none => false
  | .newarray t, [pl] => m_w pl (.arrayClass (newarray.typeOf t))
  | .newarray _, _ => false
  | .anewarray i, [pl] => m_w pl (.classLink own i "IsHeIn$Moment")
  | .anewarray _, _ => false
  | .invokestatic i, [y, n, pl, nest] => match tab[y.toNat]? with
    | some e => (if nest = 0 then m_w pl (.methodLink own i e.2.1) else m_nw pl (.methodLinkNest own i e.2.1 "IsHeIn")) && decide ((parseMethodDescriptor e.2.1.desc).map (fun d => d.parameters.length) = some n.toNat)
    | none => true
  | .invokevirtual i, [y, n, pl, nest] => match tab[y.toNat]? with
    | some e => decide (nest = 0) && m_w pl (.methodLink own i e.2.1) && decide ((parseMethodDescriptor e.2.1.desc).map (fun d => d.parameters.length) = some n.toNat)
    | none => true
  | .invokespecial i, [y, n, pl, nest] => if y < 0 then m_w pl (.methodLink own i Lib.objectInit) else match tab[y.toNat]? with
    | some e => (if nest = 0 then m_w pl (.methodLink own i e.2.1) else m_nw pl (.methodLinkNest own i e.2.1 "IsHeIn")) && decide ((parseMethodDescriptor e.2.1.desc).map (fun d => d.parameters.length) = some n.toNat)
    | none => true
  | .invokestatic i, [_, 0, pl] => m_w pl (.methodLink own i Lib.Math.abs.name)
  | .invokestatic i, [_, 1, pl] => m_w pl (.methodLink own i Lib.Math.max.name)
  | .invokestatic i, [_, 2, pl] => m_w pl (.methodLink own i ⟨"java/lang/Math", "max", "(JJ)J"⟩)
  | .invokestatic i, [_, 3, pl] => m_w pl (.methodLink own i Lib.Math.min.name)
  | .goto off, _ => m_jmp pc off
  | .ifCond _ off, _ => m_jmp pc off
  | .if_icmp _ off, _ => m_jmp pc off
  | .ifnull off, _ => m_jmp pc off
  | .ifnonnull off, _ => m_jmp pc off
  | .tableswitch d _ _ offs, _ => m_jmp pc d && offs.toList.all (fun o => m_jmp pc o)
  | _, _ => true
theorem m_jmp_ok {pc : Nat} {off : Int} (h : m_jmp pc off = true) : (pc : Int) + off = (m_to pc off : Int) := by
  have h1 : 0 ≤ (pc : Int) + off := of_decide_eq_true h
  unfold m_to
  omega
/-- a method's row in the table is so: its words stand there -/
def m_okH (y : mM) : Prop := plainName y.2.1.cls = true ∧ (y.2.1.cls ≠ "java/lang/invoke/MethodHandle" ∧ y.2.1.cls ≠ "java/lang/invoke/VarHandle") ∧ y.2.2.2.1 ≤ 60 ∧ Cond.code y.2.1 y.2.2.1 y.2.2.2.1 y.2.2.2.2.1 ∈ m_TW ∧ Cond.initialized y.2.1.cls ∈ m_TW ∧ (y.1 = 0 → Cond.static y.2.1 ∈ m_TW) ∧ (y.1 ≠ 0 → Cond.instanceMethod y.2.1 ∈ m_TW) ∧ (y.1 = 1 → Cond.selects y.2.1.cls y.2.1 y.2.1 ∈ m_TW) ∧ (y.1 = 2 → y.2.1.name = "<init>" ∧ y.2.2.2.2.1 = none) ∧
  (y.1 ≠ 0 → (y.2.2.2.2.2.1 = 99 ∧ y.2.1.cls = "java/lang/String") ∨ ∃ q, m_cl[y.2.2.2.2.2.1]? = some q ∧ q.1 = y.2.1.cls ∧ y.2.2.2.2.2.1 ≠ 99)
/-- its instructions are what its bytes say, with their words -/
def m_okC (tab : List mM) (y : mM) : Prop := ∀ q ∈ y.2.2.2.2.2.2.2, decode y.2.2.1 q.1 = .ok (q.2.1, m_len q.2.1 q.2.2) ∧ m_okI y.2.1.cls y.2.1.name tab q.1 q.2.1 q.2.2 = true
def m_okT (tab : List mM) : Prop := ∀ y ∈ tab, m_okH y ∧ m_okC tab y
end
section
/-! the program: every method of the class, of the reference, of the JDK that is reached -/
def mc0 : List mI := [(0, .aload_n 0, []), (1, .invokespecial 3, [-1, 0, 407, 0]), (4, .aload_n 0, []), (5, .bipush 6, []), (7, .newarray .int, [193]), (9, .putfield 9, [0, 2, 410, 2, 1]), (12, .aload_n 0, []), (13, .bipush 13, []), (15, .newarray .int, [193]), (17, .putfield 15, [0, 3, 411, 2, 1]), (20, .aload_n 0, []), (21, .bipush 12, []), (23, .newarray .int, [193]), (25, .putfield 18, [0, 4, 412, 2, 1]), (28, .aload_n 0, []), (29, .aload_n 1, []), (30, .putfield 21, [0, 0, 408, 2, 1]), (33, .aload_n 0, []), (34, .aload_n 2, []), (35, .putfield 25, [0, 1, 409, 2, 1]), (38, .return_, [])]
/-- IsHeIn$Belief.<init> -/
def me0 : mM := (2, ⟨"IsHeIn$Belief", "<init>", "(LIsHeIn$House;LIsHeIn$Law;)V"⟩, prog_2_method_1_code, 3, none, 0, [406, 137, 405, 0], mc0)
def mc1 : List mI := [(0, .aload_n 0, []), (1, .iload_n 1, []), (2, .invokevirtual 29, [2, 1, 967, 0]), (5, .aload_n 0, []), (6, .iload_n 1, []), (7, .invokevirtual 33, [3, 1, 972, 0]), (10, .ireturn, [])]
/-- IsHeIn$Belief.sureOf -/
def me1 : mM := (1, ⟨"IsHeIn$Belief", "sureOf", "(I)I"⟩, prog_2_method_2_code, 2, (some .int), 0, [966, 137, 964, 965], mc1)
def mc2 : List mI := [(0, .iconst 0, []), (1, .istore_n 2, []), (2, .iload_n 2, []), (3, .aload_n 0, []), (4, .getfield 9, [0, 2, 410, 2, 1]), (7, .arraylength, []), (8, .if_icmp .ge 29, []), (11, .aload_n 0, []), (12, .getfield 9, [0, 2, 410, 2, 1]), (15, .iload_n 2, []), (16, .aload_n 0, []), (17, .getfield 21, [0, 0, 408, 2, 1]), (20, .getfield 37, [2, 0, 199, 2, 1]), (23, .iload_n 1, []), (24, .iconst 5, []), (25, .iload_n 2, []), (26, .iadd, []), (27, .invokevirtual 43, [133, 2, 971, 0]), (30, .iastore, []), (31, .iinc 2 1, []), (34, .goto (-32), []), (37, .return_, [])]
/-- IsHeIn$Belief.glanceAt -/
def me2 : mM := (1, ⟨"IsHeIn$Belief", "glanceAt", "(I)V"⟩, prog_2_method_3_code, 3, none, 0, [970, 137, 969, 35], mc2)
def mc3 : List mI := [(0, .aload_n 0, []), (1, .getfield 25, [0, 1, 409, 2, 1]), (4, .iload_n 1, []), (5, .invokevirtual 49, [54, 1, 976, 0]), (8, .aload_n 0, []), (9, .getfield 25, [0, 1, 409, 2, 1]), (12, .iconst 5, []), (13, .invokevirtual 54, [57, 1, 977, 0]), (16, .sipush 1000, []), (19, .imul, []), (20, .istore_n 2, []), (21, .iconst 0, []), (22, .istore_n 3, []), (23, .iload_n 3, []), (24, .aload_n 0, []), (25, .getfield 21, [0, 0, 408, 2, 1]), (28, .getfield 57, [2, 4, 214, 2, 1]), (31, .getfield 60, [10, 3, 179, 0, 0]), (34, .if_icmp .ge 47, []), (37, .aload_n 0, []), (38, .getfield 9, [0, 2, 410, 2, 1]), (41, .iload_n 3, []), (42, .invokestatic 64, [189, 2, 10, 1]), (45, .istore 4, []), (47, .iload 4, []), (49, .iconst (-1), []), (50, .if_icmp .ne 7, []), (53, .iload_n 2, []), (54, .goto 20, []), (57, .aload_n 0, []), (58, .iload_n 2, []), (59, .iload_n 3, []), (60, .iload 4, []), (62, .iconst 1, []), (63, .if_icmp .ne 7, []), (66, .iconst 1, []), (67, .goto 4, []), (70, .iconst 0, []), (71, .invokevirtual 68, [4, 3, 979, 0]), (74, .istore_n 2, []), (75, .iinc 3 1, []), (78, .goto (-55), []), (81, .iload_n 2, []), (82, .ireturn, [])]
/-- IsHeIn$Belief.sureByGlance -/
def me3 : mM := (1, ⟨"IsHeIn$Belief", "sureByGlance", "(I)I"⟩, prog_2_method_4_code, 5, (some .int), 0, [975, 137, 974, 36], mc3)
def mc4 : List mI := [(0, .aload_n 0, []), (1, .getfield 21, [0, 0, 408, 2, 1]), (4, .getfield 57, [2, 4, 214, 2, 1]), (7, .iload_n 2, []), (8, .iconst 0, []), (9, .invokevirtual 43, [133, 2, 971, 0]), (12, .i2l, []), (13, .lstore 4, []), (15, .aload_n 0, []), (16, .getfield 21, [0, 0, 408, 2, 1]), (19, .getfield 57, [2, 4, 214, 2, 1]), (22, .iload_n 2, []), (23, .iconst 1, []), (24, .invokevirtual 43, [133, 2, 971, 0]), (27, .i2l, []), (28, .lstore 6, []), (30, .iload_n 1, []), (31, .i2l, []), (32, .iload_n 3, []), (33, .ifCond .eq 8, []), (36, .lload 4, []), (38, .goto 9, []), (41, .ldc2_w 72, [1000, 983]), (44, .lload 4, []), (46, .lsub, []), (47, .lmul, []), (48, .lstore 8, []), (50, .ldc 74, [0, 1000000, 984]), (52, .iload_n 1, []), (53, .isub, []), (54, .i2l, []), (55, .iload_n 3, []), (56, .ifCond .eq 8, []), (59, .lload 6, []), (61, .goto 9, []), (64, .ldc2_w 72, [1000, 983]), (67, .lload 6, []), (69, .lsub, []), (70, .lmul, []), (71, .lstore 10, []), (73, .lload 8, []), (75, .lload 10, []), (77, .ladd, []), (78, .lconst 0, []), (79, .lcmp, []), (80, .ifCond .ne 7, []), (83, .iload_n 1, []), (84, .goto 16, []), (87, .ldc2_w 75, [1000000, 985]), (90, .lload 8, []), (92, .lmul, []), (93, .lload 8, []), (95, .lload 10, []), (97, .ladd, []), (98, .ldiv, []), (99, .l2i, []), (100, .ireturn, [])]
/-- IsHeIn$Belief.sureAfter -/
def me4 : mM := (1, ⟨"IsHeIn$Belief", "sureAfter", "(IIZ)I"⟩, prog_2_method_5_code, 12, (some .int), 0, [982, 137, 981, 37], mc4)
def mc5 : List mI := [(0, .aload_n 0, []), (1, .getfield 21, [0, 0, 408, 2, 1]), (4, .getfield 57, [2, 4, 214, 2, 1]), (7, .iload_n 2, []), (8, .iconst 0, []), (9, .invokevirtual 43, [133, 2, 971, 0]), (12, .i2l, []), (13, .lstore_n 3, []), (14, .aload_n 0, []), (15, .getfield 21, [0, 0, 408, 2, 1]), (18, .getfield 57, [2, 4, 214, 2, 1]), (21, .iload_n 2, []), (22, .iconst 1, []), (23, .invokevirtual 43, [133, 2, 971, 0]), (26, .i2l, []), (27, .lstore 5, []), (29, .iload_n 1, []), (30, .i2l, []), (31, .lload_n 3, []), (32, .lmul, []), (33, .ldc 74, [0, 1000000, 984]), (35, .iload_n 1, []), (36, .isub, []), (37, .i2l, []), (38, .lload 5, []), (40, .lmul, []), (41, .ladd, []), (42, .ldc2_w 72, [1000, 983]), (45, .ldiv, []), (46, .l2i, []), (47, .ireturn, [])]
/-- IsHeIn$Belief.chanceToSee -/
def me5 : mM := (1, ⟨"IsHeIn$Belief", "chanceToSee", "(II)I"⟩, prog_2_method_6_code, 7, (some .int), 0, [1109, 137, 1108, 43], mc5)
def mc6 : List mI := [(0, .aload_n 0, []), (1, .iload_n 1, []), (2, .iload_n 2, []), (3, .invokevirtual 77, [5, 2, 1106, 0]), (6, .istore_n 3, []), (7, .aload_n 0, []), (8, .iload_n 1, []), (9, .iload_n 2, []), (10, .iconst 1, []), (11, .invokevirtual 68, [4, 3, 979, 0]), (14, .i2l, []), (15, .lstore 4, []), (17, .aload_n 0, []), (18, .iload_n 1, []), (19, .iload_n 2, []), (20, .iconst 0, []), (21, .invokevirtual 68, [4, 3, 979, 0]), (24, .i2l, []), (25, .lstore 6, []), (27, .iload_n 3, []), (28, .i2l, []), (29, .lload 4, []), (31, .ldc2_w 75, [1000000, 985]), (34, .lload 4, []), (36, .lsub, []), (37, .invokestatic 80, [-3, 2, 1110]), (40, .lmul, []), (41, .ldc 74, [0, 1000000, 984]), (43, .iload_n 3, []), (44, .isub, []), (45, .i2l, []), (46, .lload 6, []), (48, .ldc2_w 75, [1000000, 985]), (51, .lload 6, []), (53, .lsub, []), (54, .invokestatic 80, [-3, 2, 1110]), (57, .lmul, []), (58, .ladd, []), (59, .lreturn, [])]
/-- IsHeIn$Belief.surenessBy -/
def me6 : mM := (1, ⟨"IsHeIn$Belief", "surenessBy", "(II)J"⟩, prog_2_method_7_code, 8, (some .long), 0, [1105, 137, 1104, 42], mc6)
def mc7 : List mI := [(0, .iconst (-1), []), (1, .istore_n 2, []), (2, .ldc2_w 86, [-1, 1101]), (5, .lstore_n 3, []), (6, .iconst 0, []), (7, .istore 5, []), (9, .iload 5, []), (11, .aload_n 0, []), (12, .getfield 21, [0, 0, 408, 2, 1]), (15, .getfield 57, [2, 4, 214, 2, 1]), (18, .getfield 60, [10, 3, 179, 0, 0]), (21, .if_icmp .ge 44, []), (24, .aload_n 0, []), (25, .iload_n 1, []), (26, .iload 5, []), (28, .invokevirtual 88, [6, 2, 1102, 0]), (31, .lstore 6, []), (33, .aload_n 0, []), (34, .getfield 9, [0, 2, 410, 2, 1]), (37, .iload 5, []), (39, .invokestatic 64, [189, 2, 10, 1]), (42, .iconst (-1), []), (43, .if_icmp .ne 16, []), (46, .lload 6, []), (48, .lload_n 3, []), (49, .lcmp, []), (50, .ifCond .le 9, []), (53, .lload 6, []), (55, .lstore_n 3, []), (56, .iload 5, []), (58, .istore_n 2, []), (59, .iinc 5 1, []), (62, .goto (-53), []), (65, .iload_n 2, []), (66, .ireturn, [])]
/-- IsHeIn$Belief.bestSign -/
def me7 : mM := (1, ⟨"IsHeIn$Belief", "bestSign", "(I)I"⟩, prog_2_method_8_code, 8, (some .int), 0, [1100, 137, 1099, 41], mc7)
def mc8 : List mI := [(0, .aload_n 0, []), (1, .iload_n 1, []), (2, .invokevirtual 29, [2, 1, 967, 0]), (5, .iconst 0, []), (6, .istore_n 3, []), (7, .iload_n 3, []), (8, .bipush 6, []), (10, .if_icmp .ge 65, []), (13, .aload_n 0, []), (14, .iload_n 1, []), (15, .invokevirtual 33, [3, 1, 972, 0]), (18, .istore 4, []), (20, .aload_n 0, []), (21, .iload 4, []), (23, .invokevirtual 92, [7, 1, 1097, 0]), (26, .istore 5, []), (28, .iload 5, []), (30, .iconst (-1), []), (31, .if_icmp .eq 8, []), (34, .iload_n 3, []), (35, .iload_n 2, []), (36, .if_icmp .ne 6, []), (39, .iload 5, []), (41, .ireturn, []), (42, .aload_n 0, []), (43, .getfield 9, [0, 2, 410, 2, 1]), (46, .iload 5, []), (48, .aload_n 0, []), (49, .iload 4, []), (51, .iload 5, []), (53, .invokevirtual 77, [5, 2, 1106, 0]), (56, .ldc 95, [0, 500000, 1113]), (58, .if_icmp .lt 7, []), (61, .iconst 1, []), (62, .goto 4, []), (65, .iconst 0, []), (66, .invokestatic 96, [190, 3, 11, 1]), (69, .iinc 3 1, []), (72, .goto (-65), []), (75, .iconst (-1), []), (76, .ireturn, [])]
/-- IsHeIn$Belief.signAt -/
def me8 : mM := (1, ⟨"IsHeIn$Belief", "signAt", "(II)I"⟩, prog_2_method_9_code, 6, (some .int), 0, [1096, 137, 1094, 1095], mc8)
def mc9 : List mI := [(0, .aload_n 0, []), (1, .iload_n 1, []), (2, .invokevirtual 100, [1, 1, 1127, 0]), (5, .i2l, []), (6, .iload_n 2, []), (7, .iload_n 3, []), (8, .invokestatic 103, [10, 3, 1128, 0]), (11, .ireturn, [])]
/-- IsHeIn$Belief.saysIn -/
def me9 : mM := (1, ⟨"IsHeIn$Belief", "saysIn", "(III)Z"⟩, prog_2_method_10_code, 4, (some .boolean), 0, [1126, 137, 1124, 1125], mc9)
def mc10 : List mI := [(0, .ldc2_w 75, [1000000, 985]), (3, .lload_n 0, []), (4, .lsub, []), (5, .iload_n 2, []), (6, .i2l, []), (7, .lmul, []), (8, .lload_n 0, []), (9, .iload_n 3, []), (10, .i2l, []), (11, .lmul, []), (12, .lcmp, []), (13, .ifCond .gt 7, []), (16, .iconst 1, []), (17, .goto 4, []), (20, .iconst 0, []), (21, .ireturn, [])]
/-- IsHeIn$Belief.isBestSaidIn -/
def me10 : mM := (0, ⟨"IsHeIn$Belief", "isBestSaidIn", "(JII)Z"⟩, prog_2_method_11_code, 4, (some .boolean), 0, [1130, 137, 1129, 0], mc10)
def mc11 : List mI := [(0, .iconst 0, []), (1, .istore_n 2, []), (2, .iconst 0, []), (3, .istore_n 3, []), (4, .iconst 0, []), (5, .istore 4, []), (7, .iload 4, []), (9, .aload_n 0, []), (10, .getfield 21, [0, 0, 408, 2, 1]), (13, .getfield 107, [2, 7, 222, 2, 1]), (16, .getfield 60, [10, 3, 179, 0, 0]), (19, .if_icmp .ge 114, []), (22, .aload_n 0, []), (23, .aload_n 0, []), (24, .getfield 21, [0, 0, 408, 2, 1]), (27, .getfield 107, [2, 7, 222, 2, 1]), (30, .iload 4, []), (32, .iconst 0, []), (33, .invokevirtual 43, [133, 2, 971, 0]), (36, .invokevirtual 100, [1, 1, 1127, 0]), (39, .istore 5, []), (41, .aload_n 0, []), (42, .getfield 21, [0, 0, 408, 2, 1]), (45, .getfield 107, [2, 7, 222, 2, 1]), (48, .iload 4, []), (50, .iconst 1, []), (51, .invokevirtual 43, [133, 2, 971, 0]), (54, .istore 6, []), (56, .aload_n 0, []), (57, .getfield 21, [0, 0, 408, 2, 1]), (60, .getfield 107, [2, 7, 222, 2, 1]), (63, .iload 4, []), (65, .iconst 2, []), (66, .invokevirtual 43, [133, 2, 971, 0]), (69, .istore 7, []), (71, .iload 5, []), (73, .i2l, []), (74, .iload 6, []), (76, .iload 7, []), (78, .invokestatic 103, [10, 3, 1128, 0]), (81, .istore 8, []), (83, .iload_n 2, []), (84, .iload 8, []), (86, .ifCond .eq 10, []), (89, .iconst 1, []), (90, .iload 4, []), (92, .ishl, []), (93, .goto 4, []), (96, .iconst 0, []), (97, .ior, []), (98, .istore_n 2, []), (99, .iload_n 3, []), (100, .iload 8, []), (102, .ifCond .eq 16, []), (105, .iload 6, []), (107, .ldc 74, [0, 1000000, 984]), (109, .iload 5, []), (111, .isub, []), (112, .invokestatic 110, [191, 2, 12, 1]), (115, .goto 10, []), (118, .iload 7, []), (120, .iload 5, []), (122, .invokestatic 110, [191, 2, 12, 1]), (125, .iadd, []), (126, .istore_n 3, []), (127, .iinc 4 1, []), (130, .goto (-123), []), (133, .iload_n 1, []), (134, .ifCond .eq 7, []), (137, .iload_n 3, []), (138, .goto 4, []), (141, .iload_n 2, []), (142, .ireturn, [])]
/-- IsHeIn$Belief.saidToAll -/
def me11 : mM := (1, ⟨"IsHeIn$Belief", "saidToAll", "(Z)I"⟩, prog_2_method_12_code, 9, (some .int), 0, [1138, 137, 1136, 1137], mc11)
def mc12 : List mI := [(0, .iconst 0, []), (1, .istore_n 1, []), (2, .iload_n 1, []), (3, .aload_n 0, []), (4, .getfield 21, [0, 0, 408, 2, 1]), (7, .getfield 37, [2, 0, 199, 2, 1]), (10, .getfield 60, [10, 3, 179, 0, 0]), (13, .if_icmp .ge 27, []), (16, .aload_n 0, []), (17, .iload_n 1, []), (18, .invokevirtual 29, [2, 1, 967, 0]), (21, .aload_n 0, []), (22, .getfield 18, [0, 4, 412, 2, 1]), (25, .iload_n 1, []), (26, .aload_n 0, []), (27, .iload_n 1, []), (28, .invokevirtual 33, [3, 1, 972, 0]), (31, .invokestatic 96, [190, 3, 11, 1]), (34, .iinc 1 1, []), (37, .goto (-35), []), (40, .return_, [])]
/-- IsHeIn$Belief.weighAll -/
def me12 : mM := (1, ⟨"IsHeIn$Belief", "weighAll", "()V"⟩, prog_2_method_13_code, 2, none, 0, [1154, 137, 1153, 44], mc12)
def mc13 : List mI := [(0, .aload_n 0, []), (1, .invokevirtual 113, [12, 0, 1151, 0]), (4, .iconst 0, []), (5, .istore_n 1, []), (6, .iconst 0, []), (7, .istore_n 2, []), (8, .iload_n 2, []), (9, .aload_n 0, []), (10, .getfield 21, [0, 0, 408, 2, 1]), (13, .getfield 37, [2, 0, 199, 2, 1]), (16, .getfield 60, [10, 3, 179, 0, 0]), (19, .if_icmp .ge 20, []), (22, .iload_n 1, []), (23, .aload_n 0, []), (24, .getfield 18, [0, 4, 412, 2, 1]), (27, .iload_n 2, []), (28, .invokestatic 64, [189, 2, 10, 1]), (31, .iadd, []), (32, .istore_n 1, []), (33, .iinc 2 1, []), (36, .goto (-28), []), (39, .iload_n 1, []), (40, .ldc 74, [0, 1000000, 984]), (42, .idiv, []), (43, .ireturn, [])]
/-- IsHeIn$Belief.sumOfSure -/
def me13 : mM := (1, ⟨"IsHeIn$Belief", "sumOfSure", "()I"⟩, prog_2_method_14_code, 3, (some .int), 0, [1150, 137, 1148, 1149], mc13)
def mc14 : List mI := [(0, .aload_n 0, []), (1, .invokevirtual 113, [12, 0, 1151, 0]), (4, .iconst 0, []), (5, .istore_n 2, []), (6, .iload_n 2, []), (7, .aload_n 0, []), (8, .getfield 15, [0, 3, 411, 2, 1]), (11, .arraylength, []), (12, .if_icmp .ge 25, []), (15, .aload_n 0, []), (16, .getfield 15, [0, 3, 411, 2, 1]), (19, .iload_n 2, []), (20, .iload_n 2, []), (21, .ifCond .ne 8, []), (24, .ldc 74, [0, 1000000, 984]), (26, .goto 4, []), (29, .iconst 0, []), (30, .iastore, []), (31, .iinc 2 1, []), (34, .goto (-28), []), (37, .iconst 0, []), (38, .istore_n 2, []), (39, .iload_n 2, []), (40, .aload_n 0, []), (41, .getfield 21, [0, 0, 408, 2, 1]), (44, .getfield 37, [2, 0, 199, 2, 1]), (47, .getfield 60, [10, 3, 179, 0, 0]), (50, .if_icmp .ge 26, []), (53, .iload_n 2, []), (54, .iload_n 1, []), (55, .if_icmp .eq 15, []), (58, .aload_n 0, []), (59, .aload_n 0, []), (60, .getfield 18, [0, 4, 412, 2, 1]), (63, .iload_n 2, []), (64, .invokestatic 64, [189, 2, 10, 1]), (67, .invokevirtual 116, [15, 1, 1163, 0]), (70, .iinc 2 1, []), (73, .goto (-34), []), (76, .return_, [])]
/-- IsHeIn$Belief.countChances -/
def me14 : mM := (1, ⟨"IsHeIn$Belief", "countChances", "(I)V"⟩, prog_2_method_15_code, 3, none, 0, [1162, 137, 1161, 45], mc14)
def mc15 : List mI := [(0, .aload_n 0, []), (1, .getfield 15, [0, 3, 411, 2, 1]), (4, .arraylength, []), (5, .iconst 1, []), (6, .isub, []), (7, .istore_n 2, []), (8, .iload_n 2, []), (9, .ifCond .lt 49, []), (12, .aload_n 0, []), (13, .getfield 15, [0, 3, 411, 2, 1]), (16, .iload_n 2, []), (17, .iconst 1, []), (18, .isub, []), (19, .invokestatic 64, [189, 2, 10, 1]), (22, .iload_n 1, []), (23, .invokestatic 110, [191, 2, 12, 1]), (26, .istore_n 3, []), (27, .aload_n 0, []), (28, .getfield 15, [0, 3, 411, 2, 1]), (31, .iload_n 2, []), (32, .aload_n 0, []), (33, .getfield 15, [0, 3, 411, 2, 1]), (36, .iload_n 2, []), (37, .invokestatic 64, [189, 2, 10, 1]), (40, .ldc 74, [0, 1000000, 984]), (42, .iload_n 1, []), (43, .isub, []), (44, .invokestatic 110, [191, 2, 12, 1]), (47, .iload_n 3, []), (48, .iadd, []), (49, .invokestatic 96, [190, 3, 11, 1]), (52, .iinc 2 (-1), []), (55, .goto (-47), []), (58, .return_, [])]
/-- IsHeIn$Belief.countChance -/
def me15 : mM := (1, ⟨"IsHeIn$Belief", "countChance", "(I)V"⟩, prog_2_method_16_code, 4, none, 0, [1166, 137, 1165, 46], mc15)
def mc16 : List mI := [(0, .aload_n 0, []), (1, .iconst (-1), []), (2, .invokevirtual 119, [14, 1, 1159, 0]), (5, .iconst 0, []), (6, .istore_n 2, []), (7, .iconst 1, []), (8, .istore_n 3, []), (9, .iload_n 3, []), (10, .aload_n 0, []), (11, .getfield 21, [0, 0, 408, 2, 1]), (14, .getfield 37, [2, 0, 199, 2, 1]), (17, .getfield 60, [10, 3, 179, 0, 0]), (20, .if_icmp .gt 34, []), (23, .aload_n 0, []), (24, .getfield 15, [0, 3, 411, 2, 1]), (27, .iload_n 3, []), (28, .invokestatic 64, [189, 2, 10, 1]), (31, .aload_n 0, []), (32, .getfield 15, [0, 3, 411, 2, 1]), (35, .iload_n 2, []), (36, .invokestatic 64, [189, 2, 10, 1]), (39, .if_icmp .le 7, []), (42, .iload_n 3, []), (43, .goto 4, []), (46, .iload_n 2, []), (47, .istore_n 2, []), (48, .iinc 3 1, []), (51, .goto (-42), []), (54, .iload_n 1, []), (55, .ifCond .eq 14, []), (58, .aload_n 0, []), (59, .getfield 15, [0, 3, 411, 2, 1]), (62, .iload_n 2, []), (63, .invokestatic 64, [189, 2, 10, 1]), (66, .goto 4, []), (69, .iload_n 2, []), (70, .ireturn, [])]
/-- IsHeIn$Belief.likeliest -/
def me16 : mM := (1, ⟨"IsHeIn$Belief", "likeliest", "(Z)I"⟩, prog_2_method_17_code, 4, (some .int), 0, [1158, 137, 1156, 1157], mc16)
def mc17 : List mI := [(0, .aload_n 0, []), (1, .iconst (-1), []), (2, .invokevirtual 119, [14, 1, 1159, 0]), (5, .aload_n 0, []), (6, .getfield 21, [0, 0, 408, 2, 1]), (9, .getfield 37, [2, 0, 199, 2, 1]), (12, .getfield 60, [10, 3, 179, 0, 0]), (15, .istore_n 3, []), (16, .iconst 0, []), (17, .istore 4, []), (19, .iload 4, []), (21, .iload_n 3, []), (22, .if_icmp .gt 61, []), (25, .iconst 0, []), (26, .istore 5, []), (28, .iload 5, []), (30, .iload 4, []), (32, .iadd, []), (33, .iload_n 3, []), (34, .if_icmp .gt 43, []), (37, .aload_n 0, []), (38, .iload 5, []), (40, .iload 5, []), (42, .iload 4, []), (44, .iadd, []), (45, .invokevirtual 122, [18, 2, 1175, 0]), (48, .iload_n 1, []), (49, .sipush 1000, []), (52, .imul, []), (53, .if_icmp .lt 18, []), (56, .iload_n 2, []), (57, .ifCond .eq 11, []), (60, .iload 5, []), (62, .iload 4, []), (64, .iadd, []), (65, .goto 5, []), (68, .iload 5, []), (70, .ireturn, []), (71, .iinc 5 1, []), (74, .goto (-46), []), (77, .iinc 4 1, []), (80, .goto (-61), []), (83, .iconst (-1), []), (84, .ireturn, [])]
/-- IsHeIn$Belief.spanEdge -/
def me17 : mM := (1, ⟨"IsHeIn$Belief", "spanEdge", "(IZ)I"⟩, prog_2_method_18_code, 6, (some .int), 0, [1174, 137, 1172, 1173], mc17)
def mc18 : List mI := [(0, .iconst 0, []), (1, .istore_n 3, []), (2, .iload_n 1, []), (3, .istore 4, []), (5, .iload 4, []), (7, .iload_n 2, []), (8, .if_icmp .gt 21, []), (11, .iload_n 3, []), (12, .aload_n 0, []), (13, .getfield 15, [0, 3, 411, 2, 1]), (16, .iload 4, []), (18, .invokestatic 64, [189, 2, 10, 1]), (21, .iadd, []), (22, .istore_n 3, []), (23, .iinc 4 1, []), (26, .goto (-21), []), (29, .iload_n 3, []), (30, .ireturn, [])]
/-- IsHeIn$Belief.chanceWithin -/
def me18 : mM := (1, ⟨"IsHeIn$Belief", "chanceWithin", "(II)I"⟩, prog_2_method_19_code, 5, (some .int), 0, [1178, 137, 1177, 47], mc18)
def mc19 : List mI := [(0, .aload_n 0, []), (1, .iload_n 1, []), (2, .invokevirtual 119, [14, 1, 1159, 0]), (5, .aload_n 0, []), (6, .getfield 18, [0, 4, 412, 2, 1]), (9, .iload_n 1, []), (10, .invokestatic 64, [189, 2, 10, 1]), (13, .i2l, []), (14, .lstore_n 3, []), (15, .lload_n 3, []), (16, .aload_n 0, []), (17, .getfield 15, [0, 3, 411, 2, 1]), (20, .iload_n 2, []), (21, .iconst 1, []), (22, .isub, []), (23, .invokestatic 64, [189, 2, 10, 1]), (26, .i2l, []), (27, .lmul, []), (28, .lstore 5, []), (30, .ldc2_w 75, [1000000, 985]), (33, .lload_n 3, []), (34, .lsub, []), (35, .aload_n 0, []), (36, .getfield 15, [0, 3, 411, 2, 1]), (39, .iload_n 2, []), (40, .invokestatic 64, [189, 2, 10, 1]), (43, .i2l, []), (44, .lmul, []), (45, .lstore 7, []), (47, .lload 5, []), (49, .lload 7, []), (51, .ladd, []), (52, .lconst 0, []), (53, .lcmp, []), (54, .ifCond .ne 7, []), (57, .iconst (-1), []), (58, .goto 16, []), (61, .ldc2_w 75, [1000000, 985]), (64, .lload 5, []), (66, .lmul, []), (67, .lload 5, []), (69, .lload 7, []), (71, .ladd, []), (72, .ldiv, []), (73, .l2i, []), (74, .ireturn, [])]
/-- IsHeIn$Belief.amongCounted -/
def me19 : mM := (1, ⟨"IsHeIn$Belief", "amongCounted", "(II)I"⟩, prog_2_method_20_code, 9, (some .int), 0, [1186, 137, 1184, 1185], mc19)
def mc20 : List mI := [(0, .aload_n 0, []), (1, .invokevirtual 113, [12, 0, 1151, 0]), (4, .ldc 74, [0, 1000000, 984]), (6, .istore_n 2, []), (7, .iconst 0, []), (8, .istore_n 3, []), (9, .iload_n 3, []), (10, .aload_n 0, []), (11, .getfield 21, [0, 0, 408, 2, 1]), (14, .getfield 37, [2, 0, 199, 2, 1]), (17, .getfield 60, [10, 3, 179, 0, 0]), (20, .if_icmp .ge 41, []), (23, .aload_n 0, []), (24, .getfield 21, [0, 0, 408, 2, 1]), (27, .getfield 37, [2, 0, 199, 2, 1]), (30, .iload_n 3, []), (31, .iconst 0, []), (32, .invokevirtual 43, [133, 2, 971, 0]), (35, .iload_n 1, []), (36, .if_icmp .ne 19, []), (39, .iload_n 2, []), (40, .ldc 74, [0, 1000000, 984]), (42, .aload_n 0, []), (43, .getfield 18, [0, 4, 412, 2, 1]), (46, .iload_n 3, []), (47, .invokestatic 64, [189, 2, 10, 1]), (50, .isub, []), (51, .invokestatic 110, [191, 2, 12, 1]), (54, .istore_n 2, []), (55, .iinc 3 1, []), (58, .goto (-49), []), (61, .iload_n 2, []), (62, .ireturn, [])]
/-- IsHeIn$Belief.emptyChance -/
def me20 : mM := (1, ⟨"IsHeIn$Belief", "emptyChance", "(I)I"⟩, prog_2_method_21_code, 4, (some .int), 0, [1194, 137, 1192, 1193], mc20)
def mc21 : List mI := [(0, .aload_n 0, []), (1, .invokevirtual 113, [12, 0, 1151, 0]), (4, .iconst (-1), []), (5, .istore_n 2, []), (6, .iconst (-1), []), (7, .istore_n 3, []), (8, .iconst (-1), []), (9, .istore 4, []), (11, .iconst 0, []), (12, .istore 5, []), (14, .iload 5, []), (16, .aload_n 0, []), (17, .getfield 21, [0, 0, 408, 2, 1]), (20, .getfield 37, [2, 0, 199, 2, 1]), (23, .getfield 60, [10, 3, 179, 0, 0]), (26, .if_icmp .ge 76, []), (29, .iload 5, []), (31, .iconst 1, []), (32, .iadd, []), (33, .istore 6, []), (35, .iload 6, []), (37, .aload_n 0, []), (38, .getfield 21, [0, 0, 408, 2, 1]), (41, .getfield 37, [2, 0, 199, 2, 1]), (44, .getfield 60, [10, 3, 179, 0, 0]), (47, .if_icmp .ge 49, []), (50, .aload_n 0, []), (51, .getfield 18, [0, 4, 412, 2, 1]), (54, .iload 5, []), (56, .invokestatic 64, [189, 2, 10, 1]), (59, .aload_n 0, []), (60, .getfield 18, [0, 4, 412, 2, 1]), (63, .iload 6, []), (65, .invokestatic 64, [189, 2, 10, 1]), (68, .invokestatic 110, [191, 2, 12, 1]), (71, .istore 7, []), (73, .iload 7, []), (75, .iload 4, []), (77, .if_icmp .le 13, []), (80, .iload 7, []), (82, .istore 4, []), (84, .iload 5, []), (86, .istore_n 2, []), (87, .iload 6, []), (89, .istore_n 3, []), (90, .iinc 6 1, []), (93, .goto (-58), []), (96, .iinc 5 1, []), (99, .goto (-85), []), (102, .iload_n 1, []), (103, .iconst 2, []), (104, .if_icmp .ne 6, []), (107, .iload 4, []), (109, .ireturn, []), (110, .iload_n 1, []), (111, .ifCond .ne 7, []), (114, .iload_n 2, []), (115, .goto 4, []), (118, .iload_n 3, []), (119, .ireturn, [])]
/-- IsHeIn$Belief.bestPair -/
def me21 : mM := (1, ⟨"IsHeIn$Belief", "bestPair", "(I)I"⟩, prog_2_method_22_code, 8, (some .int), 0, [1202, 137, 1200, 1201], mc21)
def mc22 : List mI := [(0, .aload_n 0, []), (1, .invokevirtual 113, [12, 0, 1151, 0]), (4, .iconst 0, []), (5, .istore_n 1, []), (6, .iconst 0, []), (7, .istore_n 2, []), (8, .iload_n 2, []), (9, .aload_n 0, []), (10, .getfield 21, [0, 0, 408, 2, 1]), (13, .getfield 37, [2, 0, 199, 2, 1]), (16, .getfield 60, [10, 3, 179, 0, 0]), (19, .if_icmp .ge 39, []), (22, .aload_n 0, []), (23, .getfield 21, [0, 0, 408, 2, 1]), (26, .getfield 37, [2, 0, 199, 2, 1]), (29, .iload_n 2, []), (30, .iconst 3, []), (31, .invokevirtual 43, [133, 2, 971, 0]), (34, .iconst (-1), []), (35, .if_icmp .ne 17, []), (38, .iload_n 1, []), (39, .ldc 74, [0, 1000000, 984]), (41, .aload_n 0, []), (42, .getfield 18, [0, 4, 412, 2, 1]), (45, .iload_n 2, []), (46, .invokestatic 64, [189, 2, 10, 1]), (49, .isub, []), (50, .iadd, []), (51, .istore_n 1, []), (52, .iinc 2 1, []), (55, .goto (-47), []), (58, .iload_n 1, []), (59, .ldc 74, [0, 1000000, 984]), (61, .idiv, []), (62, .ireturn, [])]
/-- IsHeIn$Belief.keylessOut -/
def me22 : mM := (1, ⟨"IsHeIn$Belief", "keylessOut", "()I"⟩, prog_2_method_23_code, 3, (some .int), 0, [1214, 137, 1212, 1213], mc22)
def mc23 : List mI := [(0, .aload_n 0, []), (1, .invokespecial 3, [-1, 0, 429, 0]), (4, .aload_n 0, []), (5, .new 9, [10, 430, 162, 130]), (8, .dup, []), (9, .bipush 24, []), (11, .iconst 2, []), (12, .invokespecial 11, [130, 2, 431, 0]), (15, .putfield 14, [1, 2, 434, 2, 1]), (18, .aload_n 0, []), (19, .new 9, [10, 430, 162, 130]), (22, .dup, []), (23, .bipush 24, []), (25, .iconst 2, []), (26, .invokespecial 11, [130, 2, 431, 0]), (29, .putfield 20, [1, 3, 435, 2, 1]), (32, .aload_n 0, []), (33, .aload_n 1, []), (34, .putfield 23, [1, 0, 432, 2, 1]), (37, .aload_n 0, []), (38, .aload_n 2, []), (39, .putfield 27, [1, 1, 433, 2, 1]), (42, .return_, [])]
/-- IsHeIn$Foresight.<init> -/
def me23 : mM := (2, ⟨"IsHeIn$Foresight", "<init>", "(LIsHeIn$House;LIsHeIn$Law;)V"⟩, prog_3_method_1_code, 3, none, 1, [428, 138, 427, 0], mc23)
def mc24 : List mI := [(0, .aload_n 0, []), (1, .getfield 27, [1, 1, 433, 2, 1]), (4, .iload_n 1, []), (5, .invokevirtual 31, [54, 1, 1223, 0]), (8, .iload_n 2, []), (9, .istore 4, []), (11, .iconst 0, []), (12, .istore 5, []), (14, .iload_n 2, []), (15, .istore 6, []), (17, .iconst 1, []), (18, .istore 7, []), (20, .iload 7, []), (22, .bipush 24, []), (24, .if_icmp .ge 90, []), (27, .aload_n 0, []), (28, .getfield 27, [1, 1, 433, 2, 1]), (31, .aload_n 0, []), (32, .getfield 23, [1, 0, 432, 2, 1]), (35, .getfield 37, [2, 10, 232, 0, 0]), (38, .iload 7, []), (40, .iadd, []), (41, .iconst 1, []), (42, .isub, []), (43, .invokevirtual 43, [55, 1, 1224, 0]), (46, .iload 4, []), (48, .aload_n 0, []), (49, .getfield 27, [1, 1, 433, 2, 1]), (52, .iconst 0, []), (53, .invokevirtual 46, [57, 1, 1225, 0]), (56, .imul, []), (57, .sipush 1000, []), (60, .idiv, []), (61, .istore 8, []), (63, .ldc 50, [0, 1000000, 1226]), (65, .iload 4, []), (67, .isub, []), (68, .aload_n 0, []), (69, .getfield 27, [1, 1, 433, 2, 1]), (72, .iconst 1, []), (73, .invokevirtual 46, [57, 1, 1225, 0]), (76, .imul, []), (77, .sipush 1000, []), (80, .idiv, []), (81, .istore 9, []), (83, .iload 4, []), (85, .iload 8, []), (87, .isub, []), (88, .iload 9, []), (90, .iadd, []), (91, .istore 4, []), (93, .iload 4, []), (95, .iload 6, []), (97, .if_icmp .le 11, []), (100, .iload 4, []), (102, .istore 6, []), (104, .iload 7, []), (106, .istore 5, []), (108, .iinc 7 1, []), (111, .goto (-91), []), (114, .iload_n 3, []), (115, .ifCond .eq 8, []), (118, .iload 6, []), (120, .goto 5, []), (123, .iload 5, []), (125, .ireturn, [])]
/-- IsHeIn$Foresight.bestVisit -/
def me24 : mM := (1, ⟨"IsHeIn$Foresight", "bestVisit", "(IIZ)I"⟩, prog_3_method_2_code, 10, (some .int), 1, [1222, 138, 1220, 1221], mc24)
def mc25 : List mI := [(0, .aload_n 0, []), (1, .getfield 27, [1, 1, 433, 2, 1]), (4, .iload_n 1, []), (5, .invokevirtual 31, [54, 1, 1223, 0]), (8, .ldc 50, [0, 1000000, 1226]), (10, .istore_n 3, []), (11, .iconst 0, []), (12, .istore 4, []), (14, .iload 4, []), (16, .iload_n 2, []), (17, .if_icmp .ge 75, []), (20, .aload_n 0, []), (21, .getfield 27, [1, 1, 433, 2, 1]), (24, .aload_n 0, []), (25, .getfield 23, [1, 0, 432, 2, 1]), (28, .getfield 37, [2, 10, 232, 0, 0]), (31, .iload 4, []), (33, .iadd, []), (34, .invokevirtual 43, [55, 1, 1224, 0]), (37, .aload_n 0, []), (38, .getfield 27, [1, 1, 433, 2, 1]), (41, .bipush 8, []), (43, .aload_n 0, []), (44, .getfield 23, [1, 0, 432, 2, 1]), (47, .getfield 51, [2, 0, 201, 2, 1]), (50, .iload_n 1, []), (51, .iconst 4, []), (52, .invokevirtual 54, [133, 2, 1289, 0]), (55, .iload 4, []), (57, .iadd, []), (58, .sipush 999, []), (61, .invokestatic 58, [-3, 3, 1315]), (64, .invokevirtual 63, [56, 2, 1239, 0]), (67, .iload_n 3, []), (68, .sipush 1000, []), (71, .aload_n 0, []), (72, .getfield 27, [1, 1, 433, 2, 1]), (75, .iconst 1, []), (76, .invokevirtual 46, [57, 1, 1225, 0]), (79, .isub, []), (80, .imul, []), (81, .sipush 1000, []), (84, .idiv, []), (85, .istore_n 3, []), (86, .iinc 4 1, []), (89, .goto (-75), []), (92, .iload_n 3, []), (93, .ireturn, [])]
/-- IsHeIn$Foresight.stillOut -/
def me25 : mM := (1, ⟨"IsHeIn$Foresight", "stillOut", "(II)I"⟩, prog_3_method_3_code, 5, (some .int), 1, [1314, 138, 1312, 1313], mc25)
def mc26 : List mI := [(0, .aload_n 0, []), (1, .aload_n 0, []), (2, .getfield 23, [1, 0, 432, 2, 1]), (5, .getfield 37, [2, 10, 232, 0, 0]), (8, .bipush 24, []), (10, .irem, []), (11, .invokevirtual 66, [27, 1, 1235, 0]), (14, .ireturn, [])]
/-- IsHeIn$Foresight.movesNow -/
def me26 : mM := (1, ⟨"IsHeIn$Foresight", "movesNow", "()I"⟩, prog_3_method_4_code, 1, (some .int), 1, [1234, 138, 1232, 1233], mc26)
def mc27 : List mI := [(0, .iconst 0, []), (1, .istore_n 2, []), (2, .iconst 0, []), (3, .istore_n 3, []), (4, .iload_n 3, []), (5, .aload_n 0, []), (6, .getfield 23, [1, 0, 432, 2, 1]), (9, .getfield 51, [2, 0, 201, 2, 1]), (12, .getfield 69, [10, 3, 181, 0, 0]), (15, .if_icmp .ge 52, []), (18, .aload_n 0, []), (19, .getfield 27, [1, 1, 433, 2, 1]), (22, .iload_n 3, []), (23, .invokevirtual 31, [54, 1, 1223, 0]), (26, .aload_n 0, []), (27, .getfield 27, [1, 1, 433, 2, 1]), (30, .iconst 3, []), (31, .iload_n 1, []), (32, .invokevirtual 63, [56, 2, 1239, 0]), (35, .iload_n 2, []), (36, .aload_n 0, []), (37, .getfield 27, [1, 1, 433, 2, 1]), (40, .aload_n 0, []), (41, .getfield 23, [1, 0, 432, 2, 1]), (44, .iload_n 3, []), (45, .invokevirtual 72, [44, 1, 1243, 0]), (48, .ifCond .eq 7, []), (51, .iconst 1, []), (52, .goto 4, []), (55, .iconst 0, []), (56, .invokevirtual 46, [57, 1, 1225, 0]), (59, .iadd, []), (60, .istore_n 2, []), (61, .iinc 3 1, []), (64, .goto (-60), []), (67, .iload_n 2, []), (68, .ireturn, [])]
/-- IsHeIn$Foresight.movesAt -/
def me27 : mM := (1, ⟨"IsHeIn$Foresight", "movesAt", "(I)I"⟩, prog_3_method_5_code, 4, (some .int), 1, [1238, 138, 1236, 1237], mc27)
def mc28 : List mI := [(0, .iconst 0, []), (1, .istore_n 1, []), (2, .aload_n 0, []), (3, .iconst 0, []), (4, .invokevirtual 66, [27, 1, 1235, 0]), (7, .istore_n 2, []), (8, .iconst 1, []), (9, .istore_n 3, []), (10, .iload_n 3, []), (11, .bipush 24, []), (13, .if_icmp .ge 27, []), (16, .aload_n 0, []), (17, .iload_n 3, []), (18, .invokevirtual 66, [27, 1, 1235, 0]), (21, .istore 4, []), (23, .iload 4, []), (25, .iload_n 2, []), (26, .if_icmp .le 8, []), (29, .iload 4, []), (31, .istore_n 2, []), (32, .iload_n 3, []), (33, .istore_n 1, []), (34, .iinc 3 1, []), (37, .goto (-27), []), (40, .iload_n 1, []), (41, .ireturn, [])]
/-- IsHeIn$Foresight.busiestClock -/
def me28 : mM := (1, ⟨"IsHeIn$Foresight", "busiestClock", "()I"⟩, prog_3_method_6_code, 5, (some .int), 1, [1251, 138, 1249, 1250], mc28)
def mc29 : List mI := [(0, .iconst 0, []), (1, .istore 4, []), (3, .iconst 0, []), (4, .istore 5, []), (6, .iload 5, []), (8, .aload_n 0, []), (9, .getfield 23, [1, 0, 432, 2, 1]), (12, .getfield 51, [2, 0, 201, 2, 1]), (15, .getfield 69, [10, 3, 181, 0, 0]), (18, .if_icmp .ge 40, []), (21, .aload_n 0, []), (22, .getfield 27, [1, 1, 433, 2, 1]), (25, .iload 5, []), (27, .invokevirtual 31, [54, 1, 1223, 0]), (30, .aload_n 0, []), (31, .getfield 27, [1, 1, 433, 2, 1]), (34, .iconst 5, []), (35, .iload_n 3, []), (36, .invokevirtual 63, [56, 2, 1239, 0]), (39, .iload 4, []), (41, .aload_n 0, []), (42, .getfield 27, [1, 1, 433, 2, 1]), (45, .iconst 2, []), (46, .invokevirtual 46, [57, 1, 1225, 0]), (49, .iadd, []), (50, .istore 4, []), (52, .iinc 5 1, []), (55, .goto (-49), []), (58, .iload 4, []), (60, .iload_n 1, []), (61, .imul, []), (62, .sipush 1000, []), (65, .idiv, []), (66, .iload_n 3, []), (67, .iload_n 2, []), (68, .imul, []), (69, .iadd, []), (70, .ireturn, [])]
/-- IsHeIn$Foresight.costOfTag -/
def me29 : mM := (1, ⟨"IsHeIn$Foresight", "costOfTag", "(III)I"⟩, prog_3_method_7_code, 6, (some .int), 1, [1260, 138, 1258, 1259], mc29)
def mc30 : List mI := [(0, .iconst 0, []), (1, .istore_n 3, []), (2, .aload_n 0, []), (3, .iload_n 1, []), (4, .iload_n 2, []), (5, .iconst 0, []), (6, .invokevirtual 76, [29, 3, 1269, 0]), (9, .istore 4, []), (11, .iconst 1, []), (12, .istore 5, []), (14, .iload 5, []), (16, .bipush 20, []), (18, .if_icmp .gt 33, []), (21, .aload_n 0, []), (22, .iload_n 1, []), (23, .iload_n 2, []), (24, .iload 5, []), (26, .invokevirtual 76, [29, 3, 1269, 0]), (29, .istore 6, []), (31, .iload 6, []), (33, .iload 4, []), (35, .if_icmp .ge 10, []), (38, .iload 6, []), (40, .istore 4, []), (42, .iload 5, []), (44, .istore_n 3, []), (45, .iinc 5 1, []), (48, .goto (-34), []), (51, .iload_n 3, []), (52, .ireturn, [])]
/-- IsHeIn$Foresight.bestTag -/
def me30 : mM := (1, ⟨"IsHeIn$Foresight", "bestTag", "(II)I"⟩, prog_3_method_8_code, 7, (some .int), 1, [1268, 138, 1266, 1267], mc30)
def mc31 : List mI := [(0, .iconst (-1), []), (1, .istore_n 1, []), (2, .iconst (-1), []), (3, .istore_n 2, []), (4, .iconst 0, []), (5, .istore_n 3, []), (6, .iload_n 3, []), (7, .aload_n 0, []), (8, .getfield 23, [1, 0, 432, 2, 1]), (11, .getfield 51, [2, 0, 201, 2, 1]), (14, .getfield 69, [10, 3, 181, 0, 0]), (17, .if_icmp .ge 38, []), (20, .aload_n 0, []), (21, .getfield 27, [1, 1, 433, 2, 1]), (24, .iload_n 3, []), (25, .invokevirtual 31, [54, 1, 1223, 0]), (28, .aload_n 0, []), (29, .getfield 27, [1, 1, 433, 2, 1]), (32, .iconst 2, []), (33, .invokevirtual 46, [57, 1, 1225, 0]), (36, .istore 4, []), (38, .iload 4, []), (40, .iload_n 2, []), (41, .if_icmp .le 8, []), (44, .iload 4, []), (46, .istore_n 2, []), (47, .iload_n 3, []), (48, .istore_n 1, []), (49, .iinc 3 1, []), (52, .goto (-46), []), (55, .iload_n 1, []), (56, .ireturn, [])]
/-- IsHeIn$Foresight.likeliestToCarry -/
def me31 : mM := (1, ⟨"IsHeIn$Foresight", "likeliestToCarry", "()I"⟩, prog_3_method_9_code, 5, (some .int), 1, [1306, 138, 1304, 1305], mc31)
def mc32 : List mI := [(0, .aload_n 0, []), (1, .getfield 14, [1, 2, 434, 2, 1]), (4, .invokevirtual 80, [137, 0, 1278, 0]), (7, .aload_n 0, []), (8, .getfield 20, [1, 3, 435, 2, 1]), (11, .invokevirtual 80, [137, 0, 1278, 0]), (14, .iconst 0, []), (15, .istore_n 2, []), (16, .iload_n 2, []), (17, .bipush 24, []), (19, .if_icmp .ge 30, []), (22, .aload_n 0, []), (23, .getfield 14, [1, 2, 434, 2, 1]), (26, .invokevirtual 83, [136, 0, 1279, 0]), (29, .pop, []), (30, .aload_n 0, []), (31, .getfield 20, [1, 3, 435, 2, 1]), (34, .invokevirtual 83, [136, 0, 1279, 0]), (37, .pop, []), (38, .aload_n 0, []), (39, .iload_n 2, []), (40, .invokevirtual 87, [33, 1, 1280, 0]), (43, .iinc 2 1, []), (46, .goto (-30), []), (49, .bipush 23, []), (51, .istore_n 2, []), (52, .iload_n 2, []), (53, .ifCond .lt 68, []), (56, .iconst 0, []), (57, .istore_n 3, []), (58, .iload_n 3, []), (59, .iconst 2, []), (60, .if_icmp .ge 55, []), (63, .aload_n 0, []), (64, .iload_n 2, []), (65, .iconst 1, []), (66, .iadd, []), (67, .iload_n 3, []), (68, .iconst 0, []), (69, .iload_n 1, []), (70, .invokevirtual 90, [34, 4, 1285, 0]), (73, .aload_n 0, []), (74, .iload_n 2, []), (75, .iconst 1, []), (76, .iadd, []), (77, .iload_n 3, []), (78, .iconst 1, []), (79, .iload_n 1, []), (80, .invokevirtual 90, [34, 4, 1285, 0]), (83, .invokestatic 94, [-3, 1, 1290]), (86, .istore 4, []), (88, .aload_n 0, []), (89, .getfield 20, [1, 3, 435, 2, 1]), (92, .iload_n 2, []), (93, .iload_n 3, []), (94, .aload_n 0, []), (95, .getfield 14, [1, 2, 434, 2, 1]), (98, .iload_n 2, []), (99, .iload_n 3, []), (100, .invokevirtual 54, [133, 2, 1289, 0]), (103, .iload 4, []), (105, .iadd, []), (106, .invokevirtual 97, [134, 3, 1284, 0]), (109, .iinc 3 1, []), (112, .goto (-54), []), (115, .iinc 2 (-1), []), (118, .goto (-66), []), (121, .return_, [])]
/-- IsHeIn$Foresight.plan -/
def me32 : mM := (1, ⟨"IsHeIn$Foresight", "plan", "(I)V"⟩, prog_3_method_10_code, 5, none, 1, [1277, 138, 1275, 1276], mc32)
def mc33 : List mI := [(0, .iconst 0, []), (1, .istore_n 2, []), (2, .iconst 0, []), (3, .istore_n 3, []), (4, .iconst 0, []), (5, .istore 4, []), (7, .iload 4, []), (9, .aload_n 0, []), (10, .getfield 23, [1, 0, 432, 2, 1]), (13, .getfield 51, [2, 0, 201, 2, 1]), (16, .getfield 69, [10, 3, 181, 0, 0]), (19, .if_icmp .ge 79, []), (22, .aload_n 0, []), (23, .getfield 23, [1, 0, 432, 2, 1]), (26, .iload 4, []), (28, .invokevirtual 72, [44, 1, 1243, 0]), (31, .ifCond .ne 61, []), (34, .aload_n 0, []), (35, .getfield 27, [1, 1, 433, 2, 1]), (38, .iload 4, []), (40, .invokevirtual 31, [54, 1, 1223, 0]), (43, .aload_n 0, []), (44, .getfield 27, [1, 1, 433, 2, 1]), (47, .iconst 3, []), (48, .iload_n 1, []), (49, .invokevirtual 63, [56, 2, 1239, 0]), (52, .aload_n 0, []), (53, .getfield 27, [1, 1, 433, 2, 1]), (56, .iconst 0, []), (57, .invokevirtual 46, [57, 1, 1225, 0]), (60, .istore 5, []), (62, .iload 5, []), (64, .aload_n 0, []), (65, .getfield 27, [1, 1, 433, 2, 1]), (68, .iconst 4, []), (69, .invokevirtual 46, [57, 1, 1225, 0]), (72, .imul, []), (73, .sipush 1000, []), (76, .idiv, []), (77, .istore 6, []), (79, .iload_n 2, []), (80, .iload 6, []), (82, .iadd, []), (83, .istore_n 2, []), (84, .iload_n 3, []), (85, .iload 5, []), (87, .iload 6, []), (89, .isub, []), (90, .iadd, []), (91, .istore_n 3, []), (92, .iinc 4 1, []), (95, .goto (-88), []), (98, .aload_n 0, []), (99, .getfield 14, [1, 2, 434, 2, 1]), (102, .iload_n 1, []), (103, .iconst 0, []), (104, .iload_n 2, []), (105, .invokevirtual 97, [134, 3, 1284, 0]), (108, .aload_n 0, []), (109, .getfield 14, [1, 2, 434, 2, 1]), (112, .iload_n 1, []), (113, .iconst 1, []), (114, .iload_n 3, []), (115, .invokevirtual 97, [134, 3, 1284, 0]), (118, .return_, [])]
/-- IsHeIn$Foresight.countGoings -/
def me33 : mM := (1, ⟨"IsHeIn$Foresight", "countGoings", "(I)V"⟩, prog_3_method_11_code, 7, none, 1, [1283, 138, 1282, 48], mc33)
def mc34 : List mI := [(0, .iload_n 1, []), (1, .bipush 24, []), (3, .if_icmp .lt 7, []), (6, .iconst 0, []), (7, .goto 24, []), (10, .aload_n 0, []), (11, .getfield 20, [1, 3, 435, 2, 1]), (14, .iload_n 1, []), (15, .iload_n 3, []), (16, .invokevirtual 54, [133, 2, 1289, 0]), (19, .iload_n 2, []), (20, .iload_n 3, []), (21, .if_icmp .ne 7, []), (24, .iconst 0, []), (25, .goto 5, []), (28, .iload 4, []), (30, .isub, []), (31, .ireturn, [])]
/-- IsHeIn$Foresight.restFrom -/
def me34 : mM := (1, ⟨"IsHeIn$Foresight", "restFrom", "(IIII)I"⟩, prog_3_method_12_code, 5, (some .int), 1, [1288, 138, 1287, 49], mc34)
def mc35 : List mI := [(0, .aload_n 0, []), (1, .getfield 20, [1, 3, 435, 2, 1]), (4, .iconst 0, []), (5, .iconst 0, []), (6, .invokevirtual 54, [133, 2, 1289, 0]), (9, .aload_n 0, []), (10, .getfield 20, [1, 3, 435, 2, 1]), (13, .iconst 0, []), (14, .iconst 1, []), (15, .invokevirtual 54, [133, 2, 1289, 0]), (18, .invokestatic 94, [-3, 1, 1290]), (21, .ireturn, [])]
/-- IsHeIn$Foresight.mostSeen -/
def me35 : mM := (1, ⟨"IsHeIn$Foresight", "mostSeen", "()I"⟩, prog_3_method_13_code, 1, (some .int), 1, [1294, 138, 1292, 1293], mc35)
def mc36 : List mI := [(0, .aload_n 0, []), (1, .getfield 20, [1, 3, 435, 2, 1]), (4, .iconst 0, []), (5, .iconst 0, []), (6, .invokevirtual 54, [133, 2, 1289, 0]), (9, .aload_n 0, []), (10, .getfield 20, [1, 3, 435, 2, 1]), (13, .iconst 0, []), (14, .iconst 1, []), (15, .invokevirtual 54, [133, 2, 1289, 0]), (18, .if_icmp .lt 7, []), (21, .iconst 0, []), (22, .goto 4, []), (25, .iconst 1, []), (26, .istore_n 3, []), (27, .iconst 1, []), (28, .istore 4, []), (30, .iload 4, []), (32, .iload_n 1, []), (33, .if_icmp .gt 43, []), (36, .iload 4, []), (38, .bipush 24, []), (40, .if_icmp .ge 36, []), (43, .aload_n 0, []), (44, .iload 4, []), (46, .iload_n 3, []), (47, .iconst 0, []), (48, .iload_n 2, []), (49, .invokevirtual 90, [34, 4, 1285, 0]), (52, .aload_n 0, []), (53, .iload 4, []), (55, .iload_n 3, []), (56, .iconst 1, []), (57, .iload_n 2, []), (58, .invokevirtual 90, [34, 4, 1285, 0]), (61, .if_icmp .lt 7, []), (64, .iconst 0, []), (65, .goto 4, []), (68, .iconst 1, []), (69, .istore_n 3, []), (70, .iinc 4 1, []), (73, .goto (-43), []), (76, .iload_n 3, []), (77, .ireturn, [])]
/-- IsHeIn$Foresight.doorAt -/
def me36 : mM := (1, ⟨"IsHeIn$Foresight", "doorAt", "(II)I"⟩, prog_3_method_14_code, 5, (some .int), 1, [1298, 138, 1296, 1297], mc36)
def mc37 : List mI := [(0, .aload_n 0, []), (1, .invokespecial 3, [-1, 0, 160, 0]), (4, .aload_n 0, []), (5, .new 9, [10, 161, 162, 130]), (8, .dup, []), (9, .bipush 12, []), (11, .bipush 11, []), (13, .invokespecial 11, [130, 2, 163, 0]), (16, .putfield 14, [2, 0, 194, 2, 1]), (19, .aload_n 0, []), (20, .new 9, [10, 161, 162, 130]), (23, .dup, []), (24, .sipush 150, []), (27, .iconst 5, []), (28, .invokespecial 11, [130, 2, 163, 0]), (31, .putfield 20, [2, 1, 203, 2, 1]), (34, .aload_n 0, []), (35, .new 9, [10, 161, 162, 130]), (38, .dup, []), (39, .bipush 16, []), (41, .iconst 4, []), (42, .invokespecial 11, [130, 2, 163, 0]), (45, .putfield 23, [2, 2, 207, 2, 1]), (48, .aload_n 0, []), (49, .new 9, [10, 161, 162, 130]), (52, .dup, []), (53, .sipush 400, []), (56, .iconst 1, []), (57, .invokespecial 11, [130, 2, 163, 0]), (60, .putfield 26, [2, 3, 210, 2, 1]), (63, .aload_n 0, []), (64, .new 9, [10, 161, 162, 130]), (67, .dup, []), (68, .bipush 6, []), (70, .iconst 2, []), (71, .invokespecial 11, [130, 2, 163, 0]), (74, .putfield 29, [2, 4, 213, 2, 1]), (77, .aload_n 0, []), (78, .new 9, [10, 161, 162, 130]), (81, .dup, []), (82, .bipush 12, []), (84, .iconst 4, []), (85, .invokespecial 11, [130, 2, 163, 0]), (88, .putfield 32, [2, 5, 216, 2, 1]), (91, .aload_n 0, []), (92, .new 9, [10, 161, 162, 130]), (95, .dup, []), (96, .bipush 8, []), (98, .iconst 4, []), (99, .invokespecial 11, [130, 2, 163, 0]), (102, .putfield 35, [2, 6, 218, 2, 1]), (105, .aload_n 0, []), (106, .new 9, [10, 161, 162, 130]), (109, .dup, []), (110, .bipush 8, []), (112, .iconst 3, []), (113, .invokespecial 11, [130, 2, 163, 0]), (116, .putfield 38, [2, 7, 221, 2, 1]), (119, .aload_n 0, []), (120, .iconst 0, []), (121, .putfield 41, [2, 8, 224, 0, 0]), (124, .aload_n 0, []), (125, .iconst 0, []), (126, .putfield 45, [2, 9, 227, 0, 0]), (129, .aload_n 0, []), (130, .iconst 0, []), (131, .putfield 48, [2, 10, 230, 0, 0]), (134, .aload_n 0, []), (135, .iconst 0, []), (136, .putfield 51, [2, 11, 236, 0, 0]), (139, .return_, [])]
/-- IsHeIn$House.<init> -/
def me37 : mM := (2, ⟨"IsHeIn$House", "<init>", "()V"⟩, prog_4_method_1_code, 1, none, 2, [159, 129, 158, 0], mc37)
def mc38 : List mI := [(0, .aload_n 0, []), (1, .getfield 14, [2, 0, 194, 2, 1]), (4, .aload_n 1, []), (5, .getfield 14, [2, 0, 194, 2, 1]), (8, .invokevirtual 54, [138, 1, 958, 0]), (11, .aload_n 0, []), (12, .getfield 20, [2, 1, 203, 2, 1]), (15, .aload_n 1, []), (16, .getfield 20, [2, 1, 203, 2, 1]), (19, .invokevirtual 54, [138, 1, 958, 0]), (22, .aload_n 0, []), (23, .getfield 23, [2, 2, 207, 2, 1]), (26, .aload_n 1, []), (27, .getfield 23, [2, 2, 207, 2, 1]), (30, .invokevirtual 54, [138, 1, 958, 0]), (33, .aload_n 0, []), (34, .getfield 26, [2, 3, 210, 2, 1]), (37, .aload_n 1, []), (38, .getfield 26, [2, 3, 210, 2, 1]), (41, .invokevirtual 54, [138, 1, 958, 0]), (44, .aload_n 0, []), (45, .getfield 29, [2, 4, 213, 2, 1]), (48, .aload_n 1, []), (49, .getfield 29, [2, 4, 213, 2, 1]), (52, .invokevirtual 54, [138, 1, 958, 0]), (55, .aload_n 0, []), (56, .getfield 32, [2, 5, 216, 2, 1]), (59, .aload_n 1, []), (60, .getfield 32, [2, 5, 216, 2, 1]), (63, .invokevirtual 54, [138, 1, 958, 0]), (66, .aload_n 0, []), (67, .getfield 35, [2, 6, 218, 2, 1]), (70, .aload_n 1, []), (71, .getfield 35, [2, 6, 218, 2, 1]), (74, .invokevirtual 54, [138, 1, 958, 0]), (77, .aload_n 0, []), (78, .getfield 38, [2, 7, 221, 2, 1]), (81, .aload_n 1, []), (82, .getfield 38, [2, 7, 221, 2, 1]), (85, .invokevirtual 54, [138, 1, 958, 0]), (88, .aload_n 0, []), (89, .aload_n 1, []), (90, .getfield 41, [2, 8, 224, 0, 0]), (93, .putfield 41, [2, 8, 224, 0, 0]), (96, .aload_n 0, []), (97, .aload_n 1, []), (98, .getfield 45, [2, 9, 227, 0, 0]), (101, .putfield 45, [2, 9, 227, 0, 0]), (104, .aload_n 0, []), (105, .aload_n 1, []), (106, .getfield 48, [2, 10, 230, 0, 0]), (109, .putfield 48, [2, 10, 230, 0, 0]), (112, .aload_n 0, []), (113, .aload_n 1, []), (114, .getfield 51, [2, 11, 236, 0, 0]), (117, .putfield 51, [2, 11, 236, 0, 0]), (120, .return_, [])]
/-- IsHeIn$House.copyFrom -/
def me38 : mM := (1, ⟨"IsHeIn$House", "copyFrom", "(LIsHeIn$House;)V"⟩, prog_4_method_2_code, 2, none, 2, [957, 129, 955, 956], mc38)
def mc39 : List mI := [(0, .aload_n 0, []), (1, .getfield 14, [2, 0, 194, 2, 1]), (4, .invokevirtual 58, [136, 0, 546, 0]), (7, .istore_n 3, []), (8, .aload_n 0, []), (9, .getfield 14, [2, 0, 194, 2, 1]), (12, .iload_n 3, []), (13, .iconst 0, []), (14, .iload_n 1, []), (15, .invokevirtual 62, [134, 3, 551, 0]), (18, .aload_n 0, []), (19, .getfield 14, [2, 0, 194, 2, 1]), (22, .iload_n 3, []), (23, .iconst 1, []), (24, .iload_n 2, []), (25, .invokevirtual 62, [134, 3, 551, 0]), (28, .aload_n 0, []), (29, .getfield 14, [2, 0, 194, 2, 1]), (32, .iload_n 3, []), (33, .iconst 2, []), (34, .iconst 0, []), (35, .invokevirtual 62, [134, 3, 551, 0]), (38, .aload_n 0, []), (39, .getfield 14, [2, 0, 194, 2, 1]), (42, .iload_n 3, []), (43, .iconst 3, []), (44, .iconst (-1), []), (45, .invokevirtual 62, [134, 3, 551, 0]), (48, .aload_n 0, []), (49, .getfield 14, [2, 0, 194, 2, 1]), (52, .iload_n 3, []), (53, .iconst 4, []), (54, .iconst 0, []), (55, .invokevirtual 62, [134, 3, 551, 0]), (58, .aload_n 0, []), (59, .iload_n 3, []), (60, .invokevirtual 66, [41, 1, 555, 0]), (63, .iload_n 3, []), (64, .ireturn, [])]
/-- IsHeIn$House.addGuest -/
def me39 : mM := (1, ⟨"IsHeIn$House", "addGuest", "(II)I"⟩, prog_4_method_3_code, 4, (some .int), 2, [545, 129, 543, 544], mc39)
def mc40 : List mI := [(0, .iconst 0, []), (1, .istore_n 1, []), (2, .iload_n 1, []), (3, .aload_n 0, []), (4, .getfield 14, [2, 0, 194, 2, 1]), (7, .getfield 70, [10, 3, 178, 0, 0]), (10, .if_icmp .ge 14, []), (13, .aload_n 0, []), (14, .iload_n 1, []), (15, .invokevirtual 66, [41, 1, 555, 0]), (18, .iinc 1 1, []), (21, .goto (-19), []), (24, .return_, [])]
/-- IsHeIn$House.forgetSeen -/
def me40 : mM := (1, ⟨"IsHeIn$House", "forgetSeen", "()V"⟩, prog_4_method_4_code, 2, none, 2, [921, 129, 919, 920], mc40)
def mc41 : List mI := [(0, .iconst 0, []), (1, .istore_n 2, []), (2, .iload_n 2, []), (3, .bipush 6, []), (5, .if_icmp .ge 21, []), (8, .aload_n 0, []), (9, .getfield 14, [2, 0, 194, 2, 1]), (12, .iload_n 1, []), (13, .iconst 5, []), (14, .iload_n 2, []), (15, .iadd, []), (16, .iconst (-1), []), (17, .invokevirtual 62, [134, 3, 551, 0]), (20, .iinc 2 1, []), (23, .goto (-21), []), (26, .return_, [])]
/-- IsHeIn$House.forgetSeenOf -/
def me41 : mM := (1, ⟨"IsHeIn$House", "forgetSeenOf", "(I)V"⟩, prog_4_method_5_code, 3, none, 2, [558, 129, 556, 557], mc41)
def mc42 : List mI := [(0, .aload_n 0, []), (1, .getfield 14, [2, 0, 194, 2, 1]), (4, .iload_n 1, []), (5, .invokevirtual 73, [131, 1, 571, 0]), (8, .ireturn, [])]
/-- IsHeIn$House.isGuest -/
def me42 : mM := (1, ⟨"IsHeIn$House", "isGuest", "(I)Z"⟩, prog_4_method_6_code, 2, (some .boolean), 2, [570, 129, 568, 569], mc42)
def mc43 : List mI := [(0, .aload_n 0, []), (1, .getfield 29, [2, 4, 213, 2, 1]), (4, .iload_n 1, []), (5, .invokevirtual 73, [131, 1, 571, 0]), (8, .ireturn, [])]
/-- IsHeIn$House.isSign -/
def me43 : mM := (1, ⟨"IsHeIn$House", "isSign", "(I)Z"⟩, prog_4_method_7_code, 2, (some .boolean), 2, [628, 129, 626, 627], mc43)
def mc44 : List mI := [(0, .aload_n 0, []), (1, .getfield 14, [2, 0, 194, 2, 1]), (4, .iload_n 1, []), (5, .iconst 2, []), (6, .invokevirtual 77, [133, 2, 584, 0]), (9, .iconst 1, []), (10, .if_icmp .ne 7, []), (13, .iconst 1, []), (14, .goto 4, []), (17, .iconst 0, []), (18, .ireturn, [])]
/-- IsHeIn$House.isOut -/
def me44 : mM := (1, ⟨"IsHeIn$House", "isOut", "(I)Z"⟩, prog_4_method_8_code, 2, (some .boolean), 2, [583, 129, 581, 582], mc44)
def mc45 : List mI := [(0, .iconst 0, []), (1, .istore_n 2, []), (2, .iload_n 2, []), (3, .aload_n 0, []), (4, .getfield 14, [2, 0, 194, 2, 1]), (7, .getfield 70, [10, 3, 178, 0, 0]), (10, .if_icmp .ge 24, []), (13, .aload_n 0, []), (14, .getfield 14, [2, 0, 194, 2, 1]), (17, .iload_n 2, []), (18, .iconst 3, []), (19, .invokevirtual 77, [133, 2, 584, 0]), (22, .iload_n 1, []), (23, .if_icmp .ne 5, []), (26, .iload_n 2, []), (27, .ireturn, []), (28, .iinc 2 1, []), (31, .goto (-29), []), (34, .iconst (-1), []), (35, .ireturn, [])]
/-- IsHeIn$House.keyOn -/
def me45 : mM := (1, ⟨"IsHeIn$House", "keyOn", "(I)I"⟩, prog_4_method_9_code, 3, (some .int), 2, [595, 129, 593, 594], mc45)
def mc46 : List mI := [(0, .aload_n 0, []), (1, .iload_n 1, []), (2, .invokevirtual 81, [45, 1, 592, 0]), (5, .iconst (-1), []), (6, .if_icmp .eq 7, []), (9, .iconst 1, []), (10, .goto 4, []), (13, .iconst 0, []), (14, .ireturn, [])]
/-- IsHeIn$House.hasKey -/
def me46 : mM := (1, ⟨"IsHeIn$House", "hasKey", "(I)Z"⟩, prog_4_method_10_code, 2, (some .boolean), 2, [591, 129, 589, 590], mc46)
def mc47 : List mI := [(0, .iconst 0, []), (1, .istore_n 1, []), (2, .iconst 0, []), (3, .istore_n 2, []), (4, .iload_n 2, []), (5, .aload_n 0, []), (6, .getfield 14, [2, 0, 194, 2, 1]), (9, .getfield 70, [10, 3, 178, 0, 0]), (12, .if_icmp .ge 27, []), (15, .iload_n 1, []), (16, .aload_n 0, []), (17, .iload_n 2, []), (18, .invokevirtual 85, [44, 1, 1079, 0]), (21, .ifCond .eq 9, []), (24, .iconst 1, []), (25, .iload_n 2, []), (26, .ishl, []), (27, .goto 4, []), (30, .iconst 0, []), (31, .ior, []), (32, .istore_n 1, []), (33, .iinc 2 1, []), (36, .goto (-32), []), (39, .iload_n 1, []), (40, .ireturn, [])]
/-- IsHeIn$House.outSet -/
def me47 : mM := (1, ⟨"IsHeIn$House", "outSet", "()I"⟩, prog_4_method_11_code, 3, (some .int), 2, [1078, 129, 1076, 1077], mc47)
def mc48 : List mI := [(0, .iconst 0, []), (1, .istore_n 1, []), (2, .iconst 0, []), (3, .istore_n 2, []), (4, .iload_n 2, []), (5, .aload_n 0, []), (6, .getfield 14, [2, 0, 194, 2, 1]), (9, .getfield 70, [10, 3, 178, 0, 0]), (12, .if_icmp .ge 27, []), (15, .iload_n 1, []), (16, .aload_n 0, []), (17, .iload_n 2, []), (18, .invokevirtual 88, [46, 1, 1084, 0]), (21, .ifCond .eq 9, []), (24, .iconst 1, []), (25, .iload_n 2, []), (26, .ishl, []), (27, .goto 4, []), (30, .iconst 0, []), (31, .ior, []), (32, .istore_n 1, []), (33, .iinc 2 1, []), (36, .goto (-32), []), (39, .iload_n 1, []), (40, .ireturn, [])]
/-- IsHeIn$House.hookSet -/
def me48 : mM := (1, ⟨"IsHeIn$House", "hookSet", "()I"⟩, prog_4_method_12_code, 3, (some .int), 2, [1083, 129, 1081, 1082], mc48)
def mc49 : List mI := [(0, .iconst 0, []), (1, .istore_n 1, []), (2, .iconst 0, []), (3, .istore_n 2, []), (4, .iload_n 2, []), (5, .aload_n 0, []), (6, .getfield 14, [2, 0, 194, 2, 1]), (9, .getfield 70, [10, 3, 178, 0, 0]), (12, .if_icmp .ge 32, []), (15, .iload_n 1, []), (16, .aload_n 0, []), (17, .getfield 14, [2, 0, 194, 2, 1]), (20, .iload_n 2, []), (21, .iconst 3, []), (22, .invokevirtual 77, [133, 2, 584, 0]), (25, .iconst (-1), []), (26, .if_icmp .ne 9, []), (29, .iconst 1, []), (30, .iload_n 2, []), (31, .ishl, []), (32, .goto 4, []), (35, .iconst 0, []), (36, .ior, []), (37, .istore_n 1, []), (38, .iinc 2 1, []), (41, .goto (-37), []), (44, .iload_n 1, []), (45, .ireturn, [])]
/-- IsHeIn$House.keylessSet -/
def me49 : mM := (1, ⟨"IsHeIn$House", "keylessSet", "()I"⟩, prog_4_method_13_code, 3, (some .int), 2, [1210, 129, 1208, 1209], mc49)
def mc50 : List mI := [(0, .aload_n 0, []), (1, .aload_n 0, []), (2, .getfield 51, [2, 11, 236, 0, 0]), (5, .ldc 91, [0, 1664525, 685]), (7, .imul, []), (8, .ldc 92, [0, 1013904223, 686]), (10, .iadd, []), (11, .putfield 51, [2, 11, 236, 0, 0]), (14, .aload_n 0, []), (15, .getfield 51, [2, 11, 236, 0, 0]), (18, .bipush 8, []), (20, .iushr, []), (21, .sipush 1000, []), (24, .irem, []), (25, .ireturn, [])]
/-- IsHeIn$House.drawThousand -/
def me50 : mM := (1, ⟨"IsHeIn$House", "drawThousand", "()I"⟩, prog_4_method_14_code, 1, (some .int), 2, [684, 129, 682, 683], mc50)
def mc51 : List mI := [(0, .aload_n 0, []), (1, .getfield 20, [2, 1, 203, 2, 1]), (4, .invokevirtual 93, [132, 0, 620, 0]), (7, .ifCond .eq 4, []), (10, .return_, []), (11, .aload_n 0, []), (12, .getfield 20, [2, 1, 203, 2, 1]), (15, .invokevirtual 58, [136, 0, 546, 0]), (18, .istore 5, []), (20, .aload_n 0, []), (21, .getfield 20, [2, 1, 203, 2, 1]), (24, .iload 5, []), (26, .iconst 0, []), (27, .aload_n 0, []), (28, .getfield 48, [2, 10, 230, 0, 0]), (31, .invokevirtual 62, [134, 3, 551, 0]), (34, .aload_n 0, []), (35, .getfield 20, [2, 1, 203, 2, 1]), (38, .iload 5, []), (40, .iconst 1, []), (41, .iload_n 1, []), (42, .invokevirtual 62, [134, 3, 551, 0]), (45, .aload_n 0, []), (46, .getfield 20, [2, 1, 203, 2, 1]), (49, .iload 5, []), (51, .iconst 2, []), (52, .iload_n 2, []), (53, .invokevirtual 62, [134, 3, 551, 0]), (56, .aload_n 0, []), (57, .getfield 20, [2, 1, 203, 2, 1]), (60, .iload 5, []), (62, .iconst 3, []), (63, .iload_n 3, []), (64, .invokevirtual 62, [134, 3, 551, 0]), (67, .aload_n 0, []), (68, .getfield 20, [2, 1, 203, 2, 1]), (71, .iload 5, []), (73, .iconst 4, []), (74, .iload 4, []), (76, .invokevirtual 62, [134, 3, 551, 0]), (79, .return_, [])]
/-- IsHeIn$House.write -/
def me51 : mM := (1, ⟨"IsHeIn$House", "write", "(IIII)V"⟩, prog_4_method_15_code, 6, none, 2, [619, 129, 617, 618], mc51)
def mc52 : List mI := [(0, .iconst 0, []), (1, .istore_n 2, []), (2, .iload_n 2, []), (3, .aload_n 0, []), (4, .getfield 32, [2, 5, 216, 2, 1]), (7, .getfield 70, [10, 3, 178, 0, 0]), (10, .if_icmp .ge 69, []), (13, .aload_n 0, []), (14, .getfield 48, [2, 10, 230, 0, 0]), (17, .bipush 24, []), (19, .irem, []), (20, .bipush 24, []), (22, .iadd, []), (23, .aload_n 0, []), (24, .getfield 32, [2, 5, 216, 2, 1]), (27, .iload_n 2, []), (28, .iconst 1, []), (29, .invokevirtual 77, [133, 2, 584, 0]), (32, .isub, []), (33, .bipush 24, []), (35, .irem, []), (36, .istore_n 3, []), (37, .aload_n 0, []), (38, .getfield 32, [2, 5, 216, 2, 1]), (41, .iload_n 2, []), (42, .iconst 3, []), (43, .invokevirtual 77, [133, 2, 584, 0]), (46, .iload_n 1, []), (47, .if_icmp .ne 26, []), (50, .iload_n 3, []), (51, .aload_n 0, []), (52, .getfield 32, [2, 5, 216, 2, 1]), (55, .iload_n 2, []), (56, .iconst 2, []), (57, .invokevirtual 77, [133, 2, 584, 0]), (60, .if_icmp .ge 13, []), (63, .aload_n 0, []), (64, .getfield 32, [2, 5, 216, 2, 1]), (67, .iload_n 2, []), (68, .iconst 0, []), (69, .invokevirtual 77, [133, 2, 584, 0]), (72, .ireturn, []), (73, .iinc 2 1, []), (76, .goto (-74), []), (79, .iconst (-1), []), (80, .ireturn, [])]
/-- IsHeIn$House.clerkAt -/
def me52 : mM := (1, ⟨"IsHeIn$House", "clerkAt", "(I)I"⟩, prog_4_method_16_code, 4, (some .int), 2, [692, 129, 690, 691], mc52)
def mc53 : List mI := [(0, .aload_n 0, []), (1, .invokespecial 3, [-1, 0, 375, 0]), (4, .aload_n 0, []), (5, .bipush 9, []), (7, .newarray .int, [193]), (9, .putfield 9, [3, 1, 377, 2, 1]), (12, .aload_n 0, []), (13, .bipush 64, []), (15, .newarray .int, [193]), (17, .putfield 15, [3, 2, 378, 2, 1]), (20, .aload_n 0, []), (21, .aload_n 1, []), (22, .putfield 18, [3, 0, 376, 2, 1]), (25, .return_, [])]
/-- IsHeIn$Law.<init> -/
def me53 : mM := (2, ⟨"IsHeIn$Law", "<init>", "(LIsHeIn$House;)V"⟩, prog_5_method_1_code, 2, none, 3, [374, 135, 373, 0], mc53)
def mc54 : List mI := [(0, .aload_n 0, []), (1, .getfield 9, [3, 1, 377, 2, 1]), (4, .iconst 0, []), (5, .iload_n 1, []), (6, .invokestatic 22, [190, 3, 3, 1]), (9, .aload_n 0, []), (10, .getfield 9, [3, 1, 377, 2, 1]), (13, .iconst 1, []), (14, .aload_n 0, []), (15, .getfield 18, [3, 0, 376, 2, 1]), (18, .getfield 26, [2, 0, 198, 2, 1]), (21, .iload_n 1, []), (22, .iconst 0, []), (23, .invokevirtual 32, [133, 2, 649, 0]), (26, .invokestatic 22, [190, 3, 3, 1]), (29, .aload_n 0, []), (30, .getfield 9, [3, 1, 377, 2, 1]), (33, .iconst 2, []), (34, .aload_n 0, []), (35, .getfield 18, [3, 0, 376, 2, 1]), (38, .getfield 26, [2, 0, 198, 2, 1]), (41, .iload_n 1, []), (42, .iconst 1, []), (43, .invokevirtual 32, [133, 2, 649, 0]), (46, .invokestatic 22, [190, 3, 3, 1]), (49, .aload_n 0, []), (50, .getfield 9, [3, 1, 377, 2, 1]), (53, .iconst 5, []), (54, .aload_n 0, []), (55, .getfield 18, [3, 0, 376, 2, 1]), (58, .getfield 38, [2, 8, 225, 0, 0]), (61, .invokestatic 22, [190, 3, 3, 1]), (64, .aload_n 0, []), (65, .getfield 9, [3, 1, 377, 2, 1]), (68, .bipush 6, []), (70, .aload_n 0, []), (71, .getfield 18, [3, 0, 376, 2, 1]), (74, .getfield 42, [2, 9, 228, 0, 0]), (77, .invokestatic 22, [190, 3, 3, 1]), (80, .aload_n 0, []), (81, .getfield 9, [3, 1, 377, 2, 1]), (84, .bipush 7, []), (86, .aload_n 0, []), (87, .getfield 18, [3, 0, 376, 2, 1]), (90, .getfield 26, [2, 0, 198, 2, 1]), (93, .iload_n 1, []), (94, .iconst 3, []), (95, .invokevirtual 32, [133, 2, 649, 0]), (98, .iconst (-1), []), (99, .if_icmp .ne 7, []), (102, .iconst 0, []), (103, .goto 4, []), (106, .iconst 1, []), (107, .invokestatic 22, [190, 3, 3, 1]), (110, .aload_n 0, []), (111, .getfield 9, [3, 1, 377, 2, 1]), (114, .bipush 8, []), (116, .aload_n 0, []), (117, .getfield 18, [3, 0, 376, 2, 1]), (120, .getfield 26, [2, 0, 198, 2, 1]), (123, .iload_n 1, []), (124, .iconst 4, []), (125, .invokevirtual 32, [133, 2, 649, 0]), (128, .invokestatic 22, [190, 3, 3, 1]), (131, .aload_n 0, []), (132, .aload_n 0, []), (133, .getfield 18, [3, 0, 376, 2, 1]), (136, .getfield 45, [2, 10, 234, 0, 0]), (139, .invokevirtual 48, [55, 1, 650, 0]), (142, .return_, [])]
/-- IsHeIn$Law.face -/
def me54 : mM := (1, ⟨"IsHeIn$Law", "face", "(I)V"⟩, prog_5_method_2_code, 2, none, 3, [645, 135, 643, 644], mc54)
def mc55 : List mI := [(0, .aload_n 0, []), (1, .getfield 9, [3, 1, 377, 2, 1]), (4, .iconst 3, []), (5, .iload_n 1, []), (6, .bipush 24, []), (8, .irem, []), (9, .invokestatic 22, [190, 3, 3, 1]), (12, .aload_n 0, []), (13, .getfield 9, [3, 1, 377, 2, 1]), (16, .iconst 4, []), (17, .iload_n 1, []), (18, .bipush 24, []), (20, .idiv, []), (21, .invokestatic 22, [190, 3, 3, 1]), (24, .return_, [])]
/-- IsHeIn$Law.supposeHour -/
def me55 : mM := (1, ⟨"IsHeIn$Law", "supposeHour", "(I)V"⟩, prog_5_method_3_code, 2, none, 3, [653, 135, 651, 652], mc55)
def mc56 : List mI := [(0, .aload_n 0, []), (1, .getfield 9, [3, 1, 377, 2, 1]), (4, .iload_n 1, []), (5, .iload_n 2, []), (6, .invokestatic 22, [190, 3, 3, 1]), (9, .return_, [])]
/-- IsHeIn$Law.suppose -/
def me56 : mM := (1, ⟨"IsHeIn$Law", "suppose", "(II)V"⟩, prog_5_method_4_code, 3, none, 3, [1242, 135, 1240, 1241], mc56)
def mc57 : List mI := [(0, .iconst 0, []), (1, .istore_n 2, []), (2, .iload_n 2, []), (3, .aload_n 0, []), (4, .getfield 18, [3, 0, 376, 2, 1]), (7, .getfield 52, [2, 2, 208, 2, 1]), (10, .getfield 55, [10, 3, 180, 0, 0]), (13, .if_icmp .ge 108, []), (16, .aload_n 0, []), (17, .getfield 18, [3, 0, 376, 2, 1]), (20, .getfield 52, [2, 2, 208, 2, 1]), (23, .iload_n 2, []), (24, .iconst 2, []), (25, .invokevirtual 32, [133, 2, 649, 0]), (28, .istore_n 3, []), (29, .aload_n 0, []), (30, .getfield 18, [3, 0, 376, 2, 1]), (33, .getfield 52, [2, 2, 208, 2, 1]), (36, .iload_n 2, []), (37, .iconst 3, []), (38, .invokevirtual 32, [133, 2, 649, 0]), (41, .istore 4, []), (43, .aload_n 0, []), (44, .getfield 18, [3, 0, 376, 2, 1]), (47, .getfield 52, [2, 2, 208, 2, 1]), (50, .iload_n 2, []), (51, .iconst 0, []), (52, .invokevirtual 32, [133, 2, 649, 0]), (55, .iload_n 1, []), (56, .if_icmp .ne 7, []), (59, .iconst 1, []), (60, .goto 4, []), (63, .iconst 0, []), (64, .istore 5, []), (66, .iload 5, []), (68, .ifCond .eq 47, []), (71, .iload_n 3, []), (72, .iload 4, []), (74, .if_icmp .eq 13, []), (77, .aload_n 0, []), (78, .iload_n 3, []), (79, .iload 4, []), (81, .invokevirtual 58, [58, 2, 658, 0]), (84, .ifCond .eq 31, []), (87, .iconst 0, []), (88, .aload_n 0, []), (89, .aload_n 0, []), (90, .getfield 18, [3, 0, 376, 2, 1]), (93, .getfield 52, [2, 2, 208, 2, 1]), (96, .iload_n 2, []), (97, .iconst 1, []), (98, .invokevirtual 32, [133, 2, 649, 0]), (101, .iload_n 3, []), (102, .invokevirtual 58, [58, 2, 658, 0]), (105, .sipush 1000, []), (108, .invokestatic 61, [-3, 3, 668]), (111, .invokestatic 66, [-3, 1, 669]), (114, .ireturn, []), (115, .iinc 2 1, []), (118, .goto (-116), []), (121, .iload_n 1, []), (122, .iconst 5, []), (123, .if_icmp .ne 24, []), (126, .aload_n 0, []), (127, .getfield 9, [3, 1, 377, 2, 1]), (130, .bipush 7, []), (132, .invokestatic 69, [189, 2, 4, 1]), (135, .ifCond .ne 9, []), (138, .sipush 900, []), (141, .goto 5, []), (144, .bipush 100, []), (146, .ireturn, []), (147, .getstatic 73, [0, 5]), (150, .iload_n 1, []), (151, .invokestatic 69, [189, 2, 4, 1]), (154, .ireturn, [])]
/-- IsHeIn$Law.tells -/
def me57 : mM := (1, ⟨"IsHeIn$Law", "tells", "(I)I"⟩, prog_5_method_5_code, 6, (some .int), 3, [657, 135, 655, 656], mc57)
def mc58 : List mI := [(0, .iconst 0, []), (1, .istore_n 3, []), (2, .iload_n 1, []), (3, .istore 4, []), (5, .iload 4, []), (7, .iload_n 2, []), (8, .if_icmp .ge 227, []), (11, .aload_n 0, []), (12, .getfield 18, [3, 0, 376, 2, 1]), (15, .getfield 76, [2, 3, 211, 2, 1]), (18, .iload 4, []), (20, .iconst 0, []), (21, .invokevirtual 32, [133, 2, 649, 0]), (24, .sipush 10000, []), (27, .idiv, []), (28, .istore 5, []), (30, .aload_n 0, []), (31, .getfield 18, [3, 0, 376, 2, 1]), (34, .getfield 76, [2, 3, 211, 2, 1]), (37, .iload 4, []), (39, .iconst 0, []), (40, .invokevirtual 32, [133, 2, 649, 0]), (43, .sipush 10000, []), (46, .irem, []), (47, .istore 6, []), (49, .aload_n 0, []), (50, .getfield 15, [3, 2, 378, 2, 1]), (53, .iload_n 3, []), (54, .iconst 1, []), (55, .isub, []), (56, .invokestatic 69, [189, 2, 4, 1]), (59, .istore 7, []), (61, .iload 5, []), (63, .tableswitch 136 0 9 #[53, 69, 136, 136, 136, 92, 136, 136, 136, 119], [53]), (116, .aload_n 0, []), (117, .getfield 15, [3, 2, 378, 2, 1]), (120, .iload_n 3, []), (121, .iload 6, []), (123, .invokestatic 22, [190, 3, 3, 1]), (126, .iinc 3 1, []), (129, .goto 100, []), (132, .aload_n 0, []), (133, .getfield 15, [3, 2, 378, 2, 1]), (136, .iload_n 3, []), (137, .aload_n 0, []), (138, .getfield 9, [3, 1, 377, 2, 1]), (141, .iload 6, []), (143, .invokestatic 69, [189, 2, 4, 1]), (146, .invokestatic 22, [190, 3, 3, 1]), (149, .iinc 3 1, []), (152, .goto 77, []), (155, .aload_n 0, []), (156, .getfield 15, [3, 2, 378, 2, 1]), (159, .iload_n 3, []), (160, .iconst 1, []), (161, .isub, []), (162, .iload 6, []), (164, .ifCond .ne 7, []), (167, .iconst 0, []), (168, .goto 8, []), (171, .iload 7, []), (173, .iload 6, []), (175, .idiv, []), (176, .invokestatic 22, [190, 3, 3, 1]), (179, .goto 50, []), (182, .aload_n 0, []), (183, .getfield 15, [3, 2, 378, 2, 1]), (186, .iload_n 3, []), (187, .iconst 1, []), (188, .isub, []), (189, .iconst 1, []), (190, .iload 7, []), (192, .isub, []), (193, .invokestatic 22, [190, 3, 3, 1]), (196, .goto 33, []), (199, .iinc 3 (-1), []), (202, .aload_n 0, []), (203, .getfield 15, [3, 2, 378, 2, 1]), (206, .iload_n 3, []), (207, .iconst 1, []), (208, .isub, []), (209, .iload 5, []), (211, .aload_n 0, []), (212, .getfield 15, [3, 2, 378, 2, 1]), (215, .iload_n 3, []), (216, .iconst 1, []), (217, .isub, []), (218, .invokestatic 69, [189, 2, 4, 1]), (221, .iload 7, []), (223, .invokestatic 79, [59, 3, 665, 0]), (226, .invokestatic 22, [190, 3, 3, 1]), (229, .iinc 4 1, []), (232, .goto (-227), []), (235, .aload_n 0, []), (236, .getfield 15, [3, 2, 378, 2, 1]), (239, .iload_n 3, []), (240, .iconst 1, []), (241, .isub, []), (242, .invokestatic 69, [189, 2, 4, 1]), (245, .ireturn, [])]
/-- IsHeIn$Law.valueOf -/
def me58 : mM := (1, ⟨"IsHeIn$Law", "valueOf", "(II)I"⟩, prog_5_method_6_code, 8, (some .int), 3, [661, 135, 660, 3], mc58)
def mc59 : List mI := [(0, .iload_n 0, []), (1, .tableswitch 108 2 11 #[55, 59, 63, 108, 67, 78, 89, 108, 100, 104], [55]), (56, .iload_n 1, []), (57, .iload_n 2, []), (58, .iadd, []), (59, .ireturn, []), (60, .iload_n 1, []), (61, .iload_n 2, []), (62, .isub, []), (63, .ireturn, []), (64, .iload_n 1, []), (65, .iload_n 2, []), (66, .imul, []), (67, .ireturn, []), (68, .iload_n 1, []), (69, .iload_n 2, []), (70, .if_icmp .ge 7, []), (73, .iconst 1, []), (74, .goto 4, []), (77, .iconst 0, []), (78, .ireturn, []), (79, .iload_n 1, []), (80, .iload_n 2, []), (81, .if_icmp .ne 7, []), (84, .iconst 1, []), (85, .goto 4, []), (88, .iconst 0, []), (89, .ireturn, []), (90, .iload_n 1, []), (91, .iload_n 2, []), (92, .if_icmp .le 7, []), (95, .iconst 1, []), (96, .goto 4, []), (99, .iconst 0, []), (100, .ireturn, []), (101, .iload_n 1, []), (102, .iload_n 2, []), (103, .iand, []), (104, .ireturn, []), (105, .iload_n 1, []), (106, .iload_n 2, []), (107, .ior, []), (108, .ireturn, []), (109, .iconst 0, []), (110, .ireturn, [])]
/-- IsHeIn$Law.joined -/
def me59 : mM := (0, ⟨"IsHeIn$Law", "joined", "(III)I"⟩, prog_5_method_7_code, 3, (some .int), 3, [667, 135, 666, 0], mc59)
def mc60 : List mI := [(0, .aload_n 0, []), (1, .invokespecial 3, [-1, 0, 276, 0]), (4, .aload_n 0, []), (5, .new 9, [10, 277, 162, 130]), (8, .dup, []), (9, .bipush 12, []), (11, .bipush 11, []), (13, .invokespecial 11, [130, 2, 278, 0]), (16, .putfield 14, [4, 0, 279, 2, 1]), (19, .aload_n 0, []), (20, .iconst 0, []), (21, .putfield 20, [4, 1, 280, 0, 0]), (24, .aload_n 0, []), (25, .iconst 0, []), (26, .putfield 24, [4, 2, 281, 0, 0]), (29, .aload_n 0, []), (30, .iconst 0, []), (31, .putfield 27, [4, 3, 282, 0, 0]), (34, .return_, [])]
/-- IsHeIn$Moment.<init> -/
def me60 : mM := (2, ⟨"IsHeIn$Moment", "<init>", "()V"⟩, prog_6_method_1_code, 1, none, 4, [275, 133, 274, 0], mc60)
def mc61 : List mI := [(0, .aload_n 0, []), (1, .getfield 14, [4, 0, 279, 2, 1]), (4, .aload_n 1, []), (5, .getfield 30, [2, 0, 196, 2, 1]), (8, .invokevirtual 33, [138, 1, 608, 0]), (11, .aload_n 0, []), (12, .aload_n 1, []), (13, .getfield 37, [2, 1, 204, 2, 1]), (16, .getfield 40, [10, 3, 176, 0, 0]), (19, .putfield 20, [4, 1, 280, 0, 0]), (22, .aload_n 0, []), (23, .aload_n 1, []), (24, .getfield 43, [2, 10, 231, 0, 0]), (27, .putfield 24, [4, 2, 281, 0, 0]), (30, .aload_n 0, []), (31, .aload_n 1, []), (32, .getfield 44, [2, 11, 238, 0, 0]), (35, .putfield 27, [4, 3, 282, 0, 0]), (38, .return_, [])]
/-- IsHeIn$Moment.takeFrom -/
def me61 : mM := (1, ⟨"IsHeIn$Moment", "takeFrom", "(LIsHeIn$House;)V"⟩, prog_6_method_2_code, 2, none, 4, [607, 133, 605, 606], mc61)
def mc62 : List mI := [(0, .aload_n 1, []), (1, .getfield 30, [2, 0, 196, 2, 1]), (4, .aload_n 0, []), (5, .getfield 14, [4, 0, 279, 2, 1]), (8, .invokevirtual 33, [138, 1, 608, 0]), (11, .aload_n 1, []), (12, .getfield 37, [2, 1, 204, 2, 1]), (15, .aload_n 0, []), (16, .getfield 20, [4, 1, 280, 0, 0]), (19, .aload_n 1, []), (20, .getfield 37, [2, 1, 204, 2, 1]), (23, .getfield 40, [10, 3, 176, 0, 0]), (26, .invokestatic 45, [-3, 3, 949]), (29, .putfield 40, [10, 3, 176, 0, 0]), (32, .aload_n 1, []), (33, .aload_n 0, []), (34, .getfield 24, [4, 2, 281, 0, 0]), (37, .putfield 43, [2, 10, 231, 0, 0]), (40, .aload_n 1, []), (41, .aload_n 0, []), (42, .getfield 27, [4, 3, 282, 0, 0]), (45, .putfield 44, [2, 11, 238, 0, 0]), (48, .return_, [])]
/-- IsHeIn$Moment.giveTo -/
def me62 : mM := (1, ⟨"IsHeIn$Moment", "giveTo", "(LIsHeIn$House;)V"⟩, prog_6_method_3_code, 2, none, 4, [948, 133, 946, 947], mc62)
def mc63 : List mI := [(0, .aload_n 0, []), (1, .invokespecial 3, [-1, 0, 269, 0]), (4, .aload_n 0, []), (5, .bipush 6, []), (7, .anewarray 9, [270]), (10, .putfield 11, [5, 0, 292, 2, 1]), (13, .aload_n 0, []), (14, .iconst 0, []), (15, .putfield 17, [5, 1, 293, 0, 0]), (18, .aload_n 0, []), (19, .iconst 0, []), (20, .putfield 21, [5, 2, 295, 0, 0]), (23, .iconst 0, []), (24, .istore_n 1, []), (25, .iload_n 1, []), (26, .aload_n 0, []), (27, .getfield 11, [5, 0, 292, 2, 1]), (30, .arraylength, []), (31, .if_icmp .ge 22, []), (34, .aload_n 0, []), (35, .getfield 11, [5, 0, 292, 2, 1]), (38, .iload_n 1, []), (39, .new 9, [4, 270, 272, 133]), (42, .dup, []), (43, .invokespecial 24, [60, 0, 1, 1]), (46, .aastore, []), (47, .iinc 1 1, []), (50, .goto (-25), []), (53, .return_, [])]
/-- IsHeIn$Past.<init> -/
def me63 : mM := (2, ⟨"IsHeIn$Past", "<init>", "()V"⟩, prog_7_method_1_code, 2, none, 5, [268, 132, 267, 0], mc63)
def mc64 : List mI := [(0, .aload_n 0, []), (1, .iconst 0, []), (2, .putfield 17, [5, 1, 293, 0, 0]), (5, .return_, [])]
/-- IsHeIn$Past.forget -/
def me64 : mM := (1, ⟨"IsHeIn$Past", "forget", "()V"⟩, prog_7_method_2_code, 1, none, 5, [530, 132, 528, 529], mc64)
def mc65 : List mI := [(0, .aload_n 0, []), (1, .aload_n 0, []), (2, .getfield 21, [5, 2, 295, 0, 0]), (5, .invokevirtual 25, [67, 1, 600, 0]), (8, .astore_n 2, []), (9, .aload_n 2, []), (10, .ifnonnull 4, []), (13, .return_, []), (14, .aload_n 2, []), (15, .aload_n 1, []), (16, .invokevirtual 29, [61, 1, 604, 0]), (19, .aload_n 0, []), (20, .aload_n 0, []), (21, .getfield 21, [5, 2, 295, 0, 0]), (24, .iconst 1, []), (25, .iadd, []), (26, .bipush 6, []), (28, .irem, []), (29, .putfield 21, [5, 2, 295, 0, 0]), (32, .aload_n 0, []), (33, .aload_n 0, []), (34, .getfield 17, [5, 1, 293, 0, 0]), (37, .iconst 1, []), (38, .iadd, []), (39, .bipush 6, []), (41, .invokestatic 33, [-3, 3, 615]), (44, .putfield 17, [5, 1, 293, 0, 0]), (47, .return_, [])]
/-- IsHeIn$Past.keep -/
def me65 : mM := (1, ⟨"IsHeIn$Past", "keep", "(LIsHeIn$House;)V"⟩, prog_7_method_3_code, 3, none, 5, [599, 132, 597, 598], mc65)
def mc66 : List mI := [(0, .aload_n 0, []), (1, .getfield 21, [5, 2, 295, 0, 0]), (4, .bipush 6, []), (6, .iadd, []), (7, .iconst 1, []), (8, .isub, []), (9, .bipush 6, []), (11, .irem, []), (12, .istore_n 2, []), (13, .aload_n 0, []), (14, .iload_n 2, []), (15, .invokevirtual 25, [67, 1, 600, 0]), (18, .astore_n 3, []), (19, .aload_n 0, []), (20, .getfield 17, [5, 1, 293, 0, 0]), (23, .ifCond .eq 7, []), (26, .aload_n 3, []), (27, .ifnonnull 5, []), (30, .iconst 0, []), (31, .ireturn, []), (32, .aload_n 3, []), (33, .aload_n 1, []), (34, .invokevirtual 39, [62, 1, 945, 0]), (37, .aload_n 0, []), (38, .iload_n 2, []), (39, .putfield 21, [5, 2, 295, 0, 0]), (42, .aload_n 0, []), (43, .dup, []), (44, .getfield 17, [5, 1, 293, 0, 0]), (47, .iconst 1, []), (48, .isub, []), (49, .putfield 17, [5, 1, 293, 0, 0]), (52, .iconst 1, []), (53, .ireturn, [])]
/-- IsHeIn$Past.giveBack -/
def me66 : mM := (1, ⟨"IsHeIn$Past", "giveBack", "(LIsHeIn$House;)Z"⟩, prog_7_method_4_code, 4, (some .boolean), 5, [944, 132, 942, 943], mc66)
def mc67 : List mI := [(0, .iload_n 1, []), (1, .ifCond .lt 21, []), (4, .iload_n 1, []), (5, .aload_n 0, []), (6, .getfield 11, [5, 0, 292, 2, 1]), (9, .arraylength, []), (10, .if_icmp .ge 12, []), (13, .aload_n 0, []), (14, .getfield 11, [5, 0, 292, 2, 1]), (17, .iload_n 1, []), (18, .aaload, []), (19, .goto 4, []), (22, .aconst_null, []), (23, .areturn, [])]
/-- IsHeIn$Past.momentAt -/
def me67 : mM := (1, ⟨"IsHeIn$Past", "momentAt", "(I)LIsHeIn$Moment;"⟩, prog_7_method_5_code, 2, (some (.object "IsHeIn$Moment")), 5, [603, 132, 602, 1], mc67)
def mc68 : List mI := [(0, .aload_n 0, []), (1, .invokespecial 3, [-1, 0, 391, 0]), (4, .aload_n 0, []), (5, .iconst 5, []), (6, .newarray .int, [193]), (8, .putfield 9, [6, 2, 394, 2, 1]), (11, .aload_n 0, []), (12, .aload_n 1, []), (13, .putfield 15, [6, 0, 392, 2, 1]), (16, .aload_n 0, []), (17, .aload_n 2, []), (18, .putfield 19, [6, 1, 393, 2, 1]), (21, .return_, [])]
/-- IsHeIn$Porter.<init> -/
def me68 : mM := (2, ⟨"IsHeIn$Porter", "<init>", "(LIsHeIn$House;LIsHeIn$Law;)V"⟩, prog_8_method_1_code, 3, none, 6, [390, 136, 389, 0], mc68)
def mc69 : List mI := [(0, .iconst 0, []), (1, .istore_n 1, []), (2, .iconst 0, []), (3, .istore_n 2, []), (4, .iload_n 2, []), (5, .aload_n 0, []), (6, .getfield 15, [6, 0, 392, 2, 1]), (9, .getfield 23, [2, 0, 197, 2, 1]), (12, .getfield 29, [10, 3, 175, 0, 0]), (15, .if_icmp .ge 95, []), (18, .aload_n 0, []), (19, .iload_n 2, []), (20, .invokevirtual 35, [70, 1, 638, 0]), (23, .aload_n 0, []), (24, .getfield 15, [6, 0, 392, 2, 1]), (27, .iload_n 2, []), (28, .invokevirtual 39, [44, 1, 672, 0]), (31, .ifCond .eq 11, []), (34, .aload_n 0, []), (35, .iload_n 2, []), (36, .invokevirtual 43, [74, 1, 673, 0]), (39, .goto 8, []), (42, .aload_n 0, []), (43, .iload_n 2, []), (44, .invokevirtual 46, [72, 1, 694, 0]), (47, .istore_n 3, []), (48, .iload_n 1, []), (49, .iload_n 3, []), (50, .ifCond .eq 7, []), (53, .iconst 1, []), (54, .goto 4, []), (57, .iconst 0, []), (58, .iadd, []), (59, .istore_n 1, []), (60, .aload_n 0, []), (61, .getfield 15, [6, 0, 392, 2, 1]), (64, .getfield 23, [2, 0, 197, 2, 1]), (67, .iload_n 2, []), (68, .iconst 4, []), (69, .invokevirtual 49, [133, 2, 703, 0]), (72, .iconst 1, []), (73, .iadd, []), (74, .sipush 999, []), (77, .invokestatic 53, [-3, 3, 704]), (80, .istore 4, []), (82, .aload_n 0, []), (83, .getfield 15, [6, 0, 392, 2, 1]), (86, .getfield 23, [2, 0, 197, 2, 1]), (89, .iload_n 2, []), (90, .iconst 4, []), (91, .iload_n 3, []), (92, .ifCond .eq 7, []), (95, .iconst 0, []), (96, .goto 5, []), (99, .iload 4, []), (101, .invokevirtual 58, [134, 3, 688, 0]), (104, .iinc 2 1, []), (107, .goto (-103), []), (110, .aload_n 0, []), (111, .getfield 15, [6, 0, 392, 2, 1]), (114, .dup, []), (115, .getfield 62, [2, 10, 233, 0, 0]), (118, .iconst 1, []), (119, .iadd, []), (120, .putfield 62, [2, 10, 233, 0, 0]), (123, .iload_n 1, []), (124, .ireturn, [])]
/-- IsHeIn$Porter.passHour -/
def me69 : mM := (1, ⟨"IsHeIn$Porter", "passHour", "()I"⟩, prog_8_method_2_code, 5, (some .int), 6, [637, 136, 635, 636], mc69)
def mc70 : List mI := [(0, .aload_n 0, []), (1, .getfield 19, [6, 1, 393, 2, 1]), (4, .iload_n 1, []), (5, .invokevirtual 65, [54, 1, 642, 0]), (8, .iconst 0, []), (9, .istore_n 2, []), (10, .iload_n 2, []), (11, .aload_n 0, []), (12, .getfield 9, [6, 2, 394, 2, 1]), (15, .arraylength, []), (16, .if_icmp .ge 23, []), (19, .aload_n 0, []), (20, .getfield 9, [6, 2, 394, 2, 1]), (23, .iload_n 2, []), (24, .aload_n 0, []), (25, .getfield 19, [6, 1, 393, 2, 1]), (28, .iload_n 2, []), (29, .invokevirtual 70, [57, 1, 654, 0]), (32, .iastore, []), (33, .iinc 2 1, []), (36, .goto (-26), []), (39, .return_, [])]
/-- IsHeIn$Porter.ask -/
def me70 : mM := (1, ⟨"IsHeIn$Porter", "ask", "(I)V"⟩, prog_8_method_3_code, 3, none, 6, [641, 136, 640, 2], mc70)
def mc71 : List mI := [(0, .aload_n 0, []), (1, .getfield 15, [6, 0, 392, 2, 1]), (4, .invokevirtual 74, [50, 0, 681, 0]), (7, .aload_n 0, []), (8, .getfield 9, [6, 2, 394, 2, 1]), (11, .iload_n 1, []), (12, .invokestatic 78, [189, 2, 6, 1]), (15, .if_icmp .ge 7, []), (18, .iconst 1, []), (19, .goto 4, []), (22, .iconst 0, []), (23, .ireturn, [])]
/-- IsHeIn$Porter.isDrawn -/
def me71 : mM := (1, ⟨"IsHeIn$Porter", "isDrawn", "(I)Z"⟩, prog_8_method_4_code, 2, (some .boolean), 6, [680, 136, 679, 5], mc71)
def mc72 : List mI := [(0, .aload_n 0, []), (1, .iconst 0, []), (2, .invokevirtual 82, [71, 1, 677, 0]), (5, .ifCond .ne 5, []), (8, .iconst 0, []), (9, .ireturn, []), (10, .aload_n 0, []), (11, .getfield 15, [6, 0, 392, 2, 1]), (14, .getfield 23, [2, 0, 197, 2, 1]), (17, .iload_n 1, []), (18, .iconst 2, []), (19, .iconst 1, []), (20, .invokevirtual 58, [134, 3, 688, 0]), (23, .aload_n 0, []), (24, .iconst 4, []), (25, .invokevirtual 82, [71, 1, 677, 0]), (28, .ifCond .eq 7, []), (31, .iconst 0, []), (32, .goto 4, []), (35, .iconst 1, []), (36, .istore_n 2, []), (37, .aload_n 0, []), (38, .iconst 2, []), (39, .invokevirtual 82, [71, 1, 677, 0]), (42, .ifCond .ne 8, []), (45, .aload_n 0, []), (46, .iload_n 1, []), (47, .invokevirtual 85, [73, 1, 698, 0]), (50, .aload_n 0, []), (51, .getfield 15, [6, 0, 392, 2, 1]), (54, .iconst 0, []), (55, .iload_n 1, []), (56, .iload_n 2, []), (57, .aload_n 0, []), (58, .getfield 15, [6, 0, 392, 2, 1]), (61, .iload_n 2, []), (62, .invokevirtual 88, [52, 1, 689, 0]), (65, .invokevirtual 91, [51, 4, 693, 0]), (68, .iconst 1, []), (69, .ireturn, [])]
/-- IsHeIn$Porter.goes -/
def me72 : mM := (1, ⟨"IsHeIn$Porter", "goes", "(I)Z"⟩, prog_8_method_5_code, 3, (some .boolean), 6, [697, 136, 696, 6], mc72)
def mc73 : List mI := [(0, .iload_n 1, []), (1, .istore_n 2, []), (2, .aload_n 0, []), (3, .iconst 3, []), (4, .invokevirtual 82, [71, 1, 677, 0]), (7, .ifCond .eq 44, []), (10, .iload_n 1, []), (11, .iconst 1, []), (12, .iadd, []), (13, .aload_n 0, []), (14, .getfield 15, [6, 0, 392, 2, 1]), (17, .getfield 23, [2, 0, 197, 2, 1]), (20, .getfield 29, [10, 3, 175, 0, 0]), (23, .if_icmp .ge 9, []), (26, .iload_n 1, []), (27, .iconst 1, []), (28, .iadd, []), (29, .goto 4, []), (32, .iconst 0, []), (33, .istore_n 3, []), (34, .aload_n 0, []), (35, .getfield 15, [6, 0, 392, 2, 1]), (38, .iload_n 3, []), (39, .invokevirtual 95, [46, 1, 702, 0]), (42, .ifCond .eq 7, []), (45, .iload_n 1, []), (46, .goto 4, []), (49, .iload_n 3, []), (50, .istore_n 2, []), (51, .aload_n 0, []), (52, .getfield 15, [6, 0, 392, 2, 1]), (55, .iload_n 2, []), (56, .invokevirtual 95, [46, 1, 702, 0]), (59, .ifCond .ne 16, []), (62, .aload_n 0, []), (63, .getfield 15, [6, 0, 392, 2, 1]), (66, .getfield 23, [2, 0, 197, 2, 1]), (69, .iload_n 1, []), (70, .iconst 3, []), (71, .iload_n 2, []), (72, .invokevirtual 58, [134, 3, 688, 0]), (75, .return_, [])]
/-- IsHeIn$Porter.hangKey -/
def me73 : mM := (1, ⟨"IsHeIn$Porter", "hangKey", "(I)V"⟩, prog_8_method_6_code, 4, none, 6, [701, 136, 700, 7], mc73)
def mc74 : List mI := [(0, .aload_n 0, []), (1, .iconst 1, []), (2, .invokevirtual 82, [71, 1, 677, 0]), (5, .ifCond .ne 5, []), (8, .iconst 0, []), (9, .ireturn, []), (10, .aload_n 0, []), (11, .getfield 15, [6, 0, 392, 2, 1]), (14, .getfield 23, [2, 0, 197, 2, 1]), (17, .iload_n 1, []), (18, .iconst 2, []), (19, .iconst 0, []), (20, .invokevirtual 58, [134, 3, 688, 0]), (23, .aload_n 0, []), (24, .getfield 15, [6, 0, 392, 2, 1]), (27, .getfield 23, [2, 0, 197, 2, 1]), (30, .iload_n 1, []), (31, .iconst 3, []), (32, .iconst (-1), []), (33, .invokevirtual 58, [134, 3, 688, 0]), (36, .aload_n 0, []), (37, .iconst 4, []), (38, .invokevirtual 82, [71, 1, 677, 0]), (41, .ifCond .eq 7, []), (44, .iconst 0, []), (45, .goto 4, []), (48, .iconst 1, []), (49, .istore_n 2, []), (50, .aload_n 0, []), (51, .getfield 15, [6, 0, 392, 2, 1]), (54, .iconst 1, []), (55, .iload_n 1, []), (56, .iload_n 2, []), (57, .aload_n 0, []), (58, .getfield 15, [6, 0, 392, 2, 1]), (61, .iload_n 2, []), (62, .invokevirtual 88, [52, 1, 689, 0]), (65, .invokevirtual 91, [51, 4, 693, 0]), (68, .iconst 1, []), (69, .ireturn, [])]
/-- IsHeIn$Porter.comes -/
def me74 : mM := (1, ⟨"IsHeIn$Porter", "comes", "(I)Z"⟩, prog_8_method_7_code, 3, (some .boolean), 6, [676, 136, 675, 4], mc74)
def mc75 : List mI := [(0, .aload_n 0, []), (1, .invokespecial 3, [-1, 0, 308, 0]), (4, .aload_n 0, []), (5, .new 9, [10, 309, 162, 130]), (8, .dup, []), (9, .bipush 16, []), (11, .iconst 4, []), (12, .invokespecial 11, [130, 2, 310, 0]), (15, .putfield 14, [7, 0, 311, 2, 1]), (18, .aload_n 0, []), (19, .new 9, [10, 309, 162, 130]), (22, .dup, []), (23, .sipush 400, []), (26, .iconst 1, []), (27, .invokespecial 11, [130, 2, 310, 0]), (30, .putfield 20, [7, 1, 313, 2, 1]), (33, .aload_n 0, []), (34, .new 9, [10, 309, 162, 130]), (37, .dup, []), (38, .bipush 6, []), (40, .iconst 2, []), (41, .invokespecial 11, [130, 2, 310, 0]), (44, .putfield 23, [7, 2, 315, 2, 1]), (47, .aload_n 0, []), (48, .new 9, [10, 309, 162, 130]), (51, .dup, []), (52, .bipush 12, []), (54, .iconst 4, []), (55, .invokespecial 11, [130, 2, 310, 0]), (58, .putfield 26, [7, 3, 317, 2, 1]), (61, .aload_n 0, []), (62, .sipush 400, []), (65, .newarray .int, [193]), (67, .putfield 29, [7, 4, 319, 2, 1]), (70, .aload_n 0, []), (71, .new 9, [10, 309, 162, 130]), (74, .dup, []), (75, .sipush 401, []), (78, .iconst 3, []), (79, .invokespecial 11, [130, 2, 310, 0]), (82, .putfield 33, [7, 5, 320, 2, 1]), (85, .aload_n 0, []), (86, .bipush 64, []), (88, .newarray .int, [193]), (90, .putfield 36, [7, 6, 321, 2, 1]), (93, .aload_n 0, []), (94, .iconst 0, []), (95, .putfield 39, [7, 7, 322, 0, 0]), (98, .aload_n 0, []), (99, .iconst 0, []), (100, .putfield 43, [7, 8, 323, 0, 0]), (103, .aload_n 0, []), (104, .iconst 0, []), (105, .putfield 46, [7, 9, 324, 0, 0]), (108, .aload_n 0, []), (109, .iconst 0, []), (110, .putfield 49, [7, 10, 326, 0, 0]), (113, .aload_n 0, []), (114, .iconst (-1), []), (115, .putfield 52, [7, 11, 328, 0, 0]), (118, .aload_n 0, []), (119, .iconst 0, []), (120, .putfield 55, [7, 12, 330, 0, 0]), (123, .aload_n 0, []), (124, .iconst 0, []), (125, .putfield 58, [7, 13, 331, 0, 0]), (128, .aload_n 0, []), (129, .iconst (-1), []), (130, .putfield 61, [7, 14, 332, 0, 0]), (133, .aload_n 0, []), (134, .iconst 0, []), (135, .putfield 64, [7, 15, 333, 0, 0]), (138, .aload_n 0, []), (139, .iconst 0, []), (140, .putfield 67, [7, 16, 334, 0, 0]), (143, .return_, [])]
/-- IsHeIn$Reader.<init> -/
def me75 : mM := (2, ⟨"IsHeIn$Reader", "<init>", "()V"⟩, prog_9_method_1_code, 1, none, 7, [307, 134, 306, 0], mc75)
def mc76 : List mI := [(0, .aload_n 0, []), (1, .getfield 46, [7, 9, 324, 0, 0]), (4, .iload_n 1, []), (5, .iadd, []), (6, .sipush 400, []), (9, .if_icmp .gt 7, []), (12, .iconst 1, []), (13, .goto 4, []), (16, .iconst 0, []), (17, .ireturn, [])]
/-- IsHeIn$Reader.hasSpaceFor -/
def me76 : mM := (1, ⟨"IsHeIn$Reader", "hasSpaceFor", "(I)Z"⟩, prog_9_method_2_code, 2, (some .boolean), 7, [712, 134, 710, 711], mc76)
def mc77 : List mI := [(0, .bipush 24, []), (2, .istore_n 2, []), (3, .iload_n 2, []), (4, .ifCond .lt 37, []), (7, .aload_n 0, []), (8, .getfield 29, [7, 4, 319, 2, 1]), (11, .aload_n 0, []), (12, .getfield 46, [7, 9, 324, 0, 0]), (15, .iload_n 1, []), (16, .iload_n 2, []), (17, .iushr, []), (18, .sipush 255, []), (21, .iand, []), (22, .invokestatic 70, [190, 3, 7, 1]), (25, .aload_n 0, []), (26, .dup, []), (27, .getfield 46, [7, 9, 324, 0, 0]), (30, .iconst 1, []), (31, .iadd, []), (32, .putfield 46, [7, 9, 324, 0, 0]), (35, .iinc 2 (-8), []), (38, .goto (-35), []), (41, .return_, [])]
/-- IsHeIn$Reader.takeFour -/
def me77 : mM := (1, ⟨"IsHeIn$Reader", "takeFour", "(I)V"⟩, prog_9_method_3_code, 3, none, 7, [716, 134, 714, 715], mc77)
def mc78 : List mI := [(0, .aload_n 0, []), (1, .iconst 0, []), (2, .putfield 49, [7, 10, 326, 0, 0]), (5, .aload_n 0, []), (6, .iconst (-1), []), (7, .putfield 52, [7, 11, 328, 0, 0]), (10, .iload_n 1, []), (11, .ifCond .lt 8, []), (14, .iload_n 1, []), (15, .iconst 2, []), (16, .if_icmp .le 5, []), (19, .iconst 0, []), (20, .ireturn, []), (21, .aload_n 0, []), (22, .invokevirtual 74, [82, 0, 730, 0]), (25, .aload_n 0, []), (26, .getfield 14, [7, 0, 311, 2, 1]), (29, .invokevirtual 77, [137, 0, 734, 0]), (32, .aload_n 0, []), (33, .getfield 20, [7, 1, 313, 2, 1]), (36, .invokevirtual 77, [137, 0, 734, 0]), (39, .aload_n 0, []), (40, .getfield 23, [7, 2, 315, 2, 1]), (43, .invokevirtual 77, [137, 0, 734, 0]), (46, .aload_n 0, []), (47, .getfield 26, [7, 3, 317, 2, 1]), (50, .invokevirtual 77, [137, 0, 734, 0]), (53, .aload_n 0, []), (54, .iconst (-1), []), (55, .putfield 55, [7, 12, 330, 0, 0]), (58, .aload_n 0, []), (59, .invokevirtual 80, [80, 0, 824, 0]), (62, .iconst 0, []), (63, .istore_n 2, []), (64, .iload_n 2, []), (65, .sipush 400, []), (68, .if_icmp .ge 51, []), (71, .aload_n 0, []), (72, .getfield 61, [7, 14, 332, 0, 0]), (75, .iconst (-1), []), (76, .if_icmp .eq 43, []), (79, .iload_n 1, []), (80, .ifCond .ne 10, []), (83, .aload_n 0, []), (84, .invokevirtual 83, [96, 0, 830, 0]), (87, .goto 19, []), (90, .iload_n 1, []), (91, .iconst 1, []), (92, .if_icmp .ne 10, []), (95, .aload_n 0, []), (96, .invokevirtual 87, [92, 0, 901, 0]), (99, .goto 7, []), (102, .aload_n 0, []), (103, .invokevirtual 90, [93, 0, 913, 0]), (106, .istore_n 3, []), (107, .iload_n 3, []), (108, .ifCond .ne 5, []), (111, .iconst 0, []), (112, .ireturn, []), (113, .iinc 2 1, []), (116, .goto (-52), []), (119, .iconst 1, []), (120, .ireturn, [])]
/-- IsHeIn$Reader.readText -/
def me78 : mM := (1, ⟨"IsHeIn$Reader", "readText", "(I)Z"⟩, prog_9_method_4_code, 4, (some .boolean), 7, [729, 134, 727, 728], mc78)
def mc79 : List mI := [(0, .aload_n 0, []), (1, .iload_n 1, []), (2, .putfield 49, [7, 10, 326, 0, 0]), (5, .aload_n 0, []), (6, .aload_n 0, []), (7, .getfield 67, [7, 16, 334, 0, 0]), (10, .putfield 52, [7, 11, 328, 0, 0]), (13, .iconst 0, []), (14, .ireturn, [])]
/-- IsHeIn$Reader.refuse -/
def me79 : mM := (1, ⟨"IsHeIn$Reader", "refuse", "(I)Z"⟩, prog_9_method_5_code, 2, (some .boolean), 7, [838, 134, 837, 17], mc79)
def mc80 : List mI := [(0, .aload_n 0, []), (1, .aload_n 0, []), (2, .getfield 55, [7, 12, 330, 0, 0]), (5, .iconst 1, []), (6, .iadd, []), (7, .aload_n 0, []), (8, .getfield 33, [7, 5, 320, 2, 1]), (11, .getfield 93, [10, 3, 182, 0, 0]), (14, .iconst 1, []), (15, .isub, []), (16, .invokestatic 96, [-3, 3, 828]), (19, .putfield 55, [7, 12, 330, 0, 0]), (22, .aload_n 0, []), (23, .aload_n 0, []), (24, .getfield 33, [7, 5, 320, 2, 1]), (27, .aload_n 0, []), (28, .getfield 55, [7, 12, 330, 0, 0]), (31, .iconst 0, []), (32, .invokevirtual 102, [133, 2, 829, 0]), (35, .putfield 61, [7, 14, 332, 0, 0]), (38, .aload_n 0, []), (39, .aload_n 0, []), (40, .getfield 33, [7, 5, 320, 2, 1]), (43, .aload_n 0, []), (44, .getfield 55, [7, 12, 330, 0, 0]), (47, .iconst 1, []), (48, .invokevirtual 102, [133, 2, 829, 0]), (51, .putfield 64, [7, 15, 333, 0, 0]), (54, .aload_n 0, []), (55, .aload_n 0, []), (56, .getfield 33, [7, 5, 320, 2, 1]), (59, .aload_n 0, []), (60, .getfield 55, [7, 12, 330, 0, 0]), (63, .iconst 2, []), (64, .invokevirtual 102, [133, 2, 829, 0]), (67, .putfield 67, [7, 16, 334, 0, 0]), (70, .return_, [])]
/-- IsHeIn$Reader.stepOn -/
def me80 : mM := (1, ⟨"IsHeIn$Reader", "stepOn", "()V"⟩, prog_9_method_6_code, 1, none, 7, [827, 134, 826, 15], mc80)
def mc81 : List mI := [(0, .aload_n 0, []), (1, .getfield 61, [7, 14, 332, 0, 0]), (4, .iload_n 1, []), (5, .if_icmp .eq 9, []), (8, .aload_n 0, []), (9, .iconst 1, []), (10, .invokevirtual 105, [79, 1, 835, 0]), (13, .ireturn, []), (14, .aload_n 0, []), (15, .invokevirtual 80, [80, 0, 824, 0]), (18, .iconst 1, []), (19, .ireturn, [])]
/-- IsHeIn$Reader.pass -/
def me81 : mM := (1, ⟨"IsHeIn$Reader", "pass", "(I)Z"⟩, prog_9_method_7_code, 2, (some .boolean), 7, [900, 134, 899, 30], mc81)
def mc82 : List mI := [(0, .aload_n 0, []), (1, .getfield 33, [7, 5, 320, 2, 1]), (4, .invokevirtual 77, [137, 0, 734, 0]), (7, .aload_n 0, []), (8, .iconst 0, []), (9, .putfield 58, [7, 13, 331, 0, 0]), (12, .iconst 0, []), (13, .istore_n 1, []), (14, .iload_n 1, []), (15, .sipush 400, []), (18, .if_icmp .ge 76, []), (21, .aload_n 0, []), (22, .invokevirtual 109, [83, 0, 738, 0]), (25, .ifCond .eq 69, []), (28, .aload_n 0, []), (29, .getfield 29, [7, 4, 319, 2, 1]), (32, .aload_n 0, []), (33, .getfield 58, [7, 13, 331, 0, 0]), (36, .invokestatic 112, [189, 2, 8, 1]), (39, .istore_n 2, []), (40, .iload_n 2, []), (41, .invokestatic 116, [90, 1, 746, 0]), (44, .ifCond .eq 10, []), (47, .aload_n 0, []), (48, .invokevirtual 119, [85, 0, 749, 0]), (51, .goto 37, []), (54, .iload_n 2, []), (55, .invokestatic 122, [91, 1, 817, 0]), (58, .ifCond .eq 10, []), (61, .aload_n 0, []), (62, .invokevirtual 125, [86, 0, 820, 0]), (65, .goto 23, []), (68, .aload_n 0, []), (69, .iload_n 2, []), (70, .iconst 0, []), (71, .aload_n 0, []), (72, .getfield 58, [7, 13, 331, 0, 0]), (75, .invokevirtual 128, [84, 3, 811, 0]), (78, .aload_n 0, []), (79, .dup, []), (80, .getfield 58, [7, 13, 331, 0, 0]), (83, .iconst 1, []), (84, .iadd, []), (85, .putfield 58, [7, 13, 331, 0, 0]), (88, .iinc 1 1, []), (91, .goto (-77), []), (94, .aload_n 0, []), (95, .iconst (-1), []), (96, .iconst 0, []), (97, .aload_n 0, []), (98, .getfield 46, [7, 9, 324, 0, 0]), (101, .invokevirtual 128, [84, 3, 811, 0]), (104, .return_, [])]
/-- IsHeIn$Reader.splitTape -/
def me82 : mM := (1, ⟨"IsHeIn$Reader", "splitTape", "()V"⟩, prog_9_method_8_code, 3, none, 7, [733, 134, 732, 8], mc82)
def mc83 : List mI := [(0, .aload_n 0, []), (1, .getfield 58, [7, 13, 331, 0, 0]), (4, .aload_n 0, []), (5, .getfield 46, [7, 9, 324, 0, 0]), (8, .if_icmp .ge 33, []), (11, .aload_n 0, []), (12, .getfield 29, [7, 4, 319, 2, 1]), (15, .aload_n 0, []), (16, .getfield 58, [7, 13, 331, 0, 0]), (19, .invokestatic 112, [189, 2, 8, 1]), (22, .invokestatic 132, [89, 1, 743, 0]), (25, .ifCond .eq 16, []), (28, .aload_n 0, []), (29, .dup, []), (30, .getfield 58, [7, 13, 331, 0, 0]), (33, .iconst 1, []), (34, .iadd, []), (35, .putfield 58, [7, 13, 331, 0, 0]), (38, .goto (-38), []), (41, .aload_n 0, []), (42, .getfield 58, [7, 13, 331, 0, 0]), (45, .aload_n 0, []), (46, .getfield 46, [7, 9, 324, 0, 0]), (49, .if_icmp .ge 7, []), (52, .iconst 1, []), (53, .goto 4, []), (56, .iconst 0, []), (57, .ireturn, [])]
/-- IsHeIn$Reader.skipBlanks -/
def me83 : mM := (1, ⟨"IsHeIn$Reader", "skipBlanks", "()Z"⟩, prog_9_method_9_code, 1, (some .boolean), 7, [741, 134, 740, 9], mc83)
def mc84 : List mI := [(0, .aload_n 0, []), (1, .getfield 33, [7, 5, 320, 2, 1]), (4, .invokevirtual 135, [136, 0, 815, 0]), (7, .istore 4, []), (9, .aload_n 0, []), (10, .getfield 33, [7, 5, 320, 2, 1]), (13, .iload 4, []), (15, .iconst 0, []), (16, .iload_n 1, []), (17, .invokevirtual 139, [134, 3, 816, 0]), (20, .aload_n 0, []), (21, .getfield 33, [7, 5, 320, 2, 1]), (24, .iload 4, []), (26, .iconst 1, []), (27, .iload_n 2, []), (28, .invokevirtual 139, [134, 3, 816, 0]), (31, .aload_n 0, []), (32, .getfield 33, [7, 5, 320, 2, 1]), (35, .iload 4, []), (37, .iconst 2, []), (38, .iload_n 3, []), (39, .invokevirtual 139, [134, 3, 816, 0]), (42, .return_, [])]
/-- IsHeIn$Reader.addToken -/
def me84 : mM := (1, ⟨"IsHeIn$Reader", "addToken", "(III)V"⟩, prog_9_method_10_code, 5, none, 7, [814, 134, 813, 13], mc84)
def mc85 : List mI := [(0, .aload_n 0, []), (1, .getfield 58, [7, 13, 331, 0, 0]), (4, .istore_n 1, []), (5, .aload_n 0, []), (6, .getfield 58, [7, 13, 331, 0, 0]), (9, .aload_n 0, []), (10, .getfield 46, [7, 9, 324, 0, 0]), (13, .if_icmp .ge 33, []), (16, .aload_n 0, []), (17, .getfield 29, [7, 4, 319, 2, 1]), (20, .aload_n 0, []), (21, .getfield 58, [7, 13, 331, 0, 0]), (24, .invokestatic 112, [189, 2, 8, 1]), (27, .invokestatic 116, [90, 1, 746, 0]), (30, .ifCond .eq 16, []), (33, .aload_n 0, []), (34, .dup, []), (35, .getfield 58, [7, 13, 331, 0, 0]), (38, .iconst 1, []), (39, .iadd, []), (40, .putfield 58, [7, 13, 331, 0, 0]), (43, .goto (-38), []), (46, .aload_n 0, []), (47, .iload_n 1, []), (48, .invokevirtual 141, [87, 1, 753, 0]), (51, .istore_n 2, []), (52, .aload_n 0, []), (53, .iload_n 2, []), (54, .iconst (-1), []), (55, .if_icmp .ne 8, []), (58, .bipush (-3), []), (60, .goto 8, []), (63, .sipush 256, []), (66, .iload_n 2, []), (67, .iadd, []), (68, .iconst 0, []), (69, .iload_n 1, []), (70, .invokevirtual 128, [84, 3, 811, 0]), (73, .return_, [])]
/-- IsHeIn$Reader.splitWord -/
def me85 : mM := (1, ⟨"IsHeIn$Reader", "splitWord", "()V"⟩, prog_9_method_11_code, 3, none, 7, [752, 134, 751, 10], mc85)
def mc86 : List mI := [(0, .aload_n 0, []), (1, .getfield 58, [7, 13, 331, 0, 0]), (4, .istore_n 1, []), (5, .iconst 0, []), (6, .istore_n 2, []), (7, .aload_n 0, []), (8, .getfield 58, [7, 13, 331, 0, 0]), (11, .aload_n 0, []), (12, .getfield 46, [7, 9, 324, 0, 0]), (15, .if_icmp .ge 67, []), (18, .aload_n 0, []), (19, .getfield 29, [7, 4, 319, 2, 1]), (22, .aload_n 0, []), (23, .getfield 58, [7, 13, 331, 0, 0]), (26, .invokestatic 112, [189, 2, 8, 1]), (29, .invokestatic 122, [91, 1, 817, 0]), (32, .ifCond .eq 50, []), (35, .aload_n 0, []), (36, .getfield 58, [7, 13, 331, 0, 0]), (39, .iload_n 1, []), (40, .isub, []), (41, .iconst 4, []), (42, .if_icmp .ge 25, []), (45, .iload_n 2, []), (46, .bipush 10, []), (48, .imul, []), (49, .aload_n 0, []), (50, .getfield 29, [7, 4, 319, 2, 1]), (53, .aload_n 0, []), (54, .getfield 58, [7, 13, 331, 0, 0]), (57, .invokestatic 112, [189, 2, 8, 1]), (60, .iadd, []), (61, .bipush 48, []), (63, .isub, []), (64, .goto 4, []), (67, .iconst 0, []), (68, .istore_n 2, []), (69, .aload_n 0, []), (70, .dup, []), (71, .getfield 58, [7, 13, 331, 0, 0]), (74, .iconst 1, []), (75, .iadd, []), (76, .putfield 58, [7, 13, 331, 0, 0]), (79, .goto (-72), []), (82, .aload_n 0, []), (83, .aload_n 0, []), (84, .getfield 58, [7, 13, 331, 0, 0]), (87, .iload_n 1, []), (88, .isub, []), (89, .iconst 4, []), (90, .if_icmp .le 8, []), (93, .bipush (-3), []), (95, .goto 5, []), (98, .bipush (-2), []), (100, .iload_n 2, []), (101, .iload_n 1, []), (102, .invokevirtual 128, [84, 3, 811, 0]), (105, .return_, [])]
/-- IsHeIn$Reader.splitNumber -/
def me86 : mM := (1, ⟨"IsHeIn$Reader", "splitNumber", "()V"⟩, prog_9_method_12_code, 3, none, 7, [823, 134, 822, 14], mc86)
def mc87 : List mI := [(0, .iconst 0, []), (1, .istore_n 2, []), (2, .iconst 0, []), (3, .istore_n 3, []), (4, .iconst 0, []), (5, .istore 4, []), (7, .iload 4, []), (9, .ldc 145, [1, 0, 0]), (11, .invokevirtual 147, [321, 0, 758, 0]), (14, .if_icmp .ge 42, []), (17, .ldc 145, [1, 0, 0]), (19, .iload 4, []), (21, .invokevirtual 151, [322, 1, 768, 0]), (24, .bipush 32, []), (26, .if_icmp .ne 24, []), (29, .aload_n 0, []), (30, .iload_n 1, []), (31, .iload_n 3, []), (32, .iload 4, []), (34, .invokevirtual 155, [88, 3, 806, 0]), (37, .ifCond .eq 5, []), (40, .iload_n 2, []), (41, .ireturn, []), (42, .iinc 2 1, []), (45, .iload 4, []), (47, .iconst 1, []), (48, .iadd, []), (49, .istore_n 3, []), (50, .iinc 4 1, []), (53, .goto (-46), []), (56, .iconst (-1), []), (57, .ireturn, [])]
/-- IsHeIn$Reader.wordNumber -/
def me87 : mM := (1, ⟨"IsHeIn$Reader", "wordNumber", "(I)I"⟩, prog_9_method_13_code, 5, (some .int), 7, [756, 134, 755, 11], mc87)
def mc88 : List mI := [(0, .iload_n 3, []), (1, .iload_n 2, []), (2, .isub, []), (3, .aload_n 0, []), (4, .getfield 58, [7, 13, 331, 0, 0]), (7, .iload_n 1, []), (8, .isub, []), (9, .if_icmp .eq 5, []), (12, .iconst 0, []), (13, .ireturn, []), (14, .iload_n 2, []), (15, .iconst 0, []), (16, .invokestatic 159, [-3, 1, 810]), (19, .istore 4, []), (21, .iload 4, []), (23, .iload_n 3, []), (24, .if_icmp .ge 44, []), (27, .iload 4, []), (29, .ldc 145, [1, 0, 0]), (31, .invokevirtual 147, [321, 0, 758, 0]), (34, .if_icmp .ge 34, []), (37, .ldc 145, [1, 0, 0]), (39, .iload 4, []), (41, .invokevirtual 151, [322, 1, 768, 0]), (44, .aload_n 0, []), (45, .getfield 29, [7, 4, 319, 2, 1]), (48, .iload_n 1, []), (49, .iload 4, []), (51, .iadd, []), (52, .iload_n 2, []), (53, .isub, []), (54, .invokestatic 112, [189, 2, 8, 1]), (57, .if_icmp .eq 5, []), (60, .iconst 0, []), (61, .ireturn, []), (62, .iinc 4 1, []), (65, .goto (-44), []), (68, .iconst 1, []), (69, .ireturn, [])]
/-- IsHeIn$Reader.isWord -/
def me88 : mM := (1, ⟨"IsHeIn$Reader", "isWord", "(III)Z"⟩, prog_9_method_14_code, 5, (some .boolean), 7, [809, 134, 808, 12], mc88)
def mc89 : List mI := [(0, .iload_n 0, []), (1, .bipush 32, []), (3, .if_icmp .eq 9, []), (6, .iload_n 0, []), (7, .bipush 10, []), (9, .if_icmp .ne 7, []), (12, .iconst 1, []), (13, .goto 4, []), (16, .iconst 0, []), (17, .ireturn, [])]
/-- IsHeIn$Reader.isBlank -/
def me89 : mM := (0, ⟨"IsHeIn$Reader", "isBlank", "(I)Z"⟩, prog_9_method_15_code, 1, (some .boolean), 7, [745, 134, 744, 0], mc89)
def mc90 : List mI := [(0, .iload_n 0, []), (1, .bipush 97, []), (3, .if_icmp .lt 9, []), (6, .iload_n 0, []), (7, .bipush 122, []), (9, .if_icmp .le 15, []), (12, .iload_n 0, []), (13, .bipush 65, []), (15, .if_icmp .lt 13, []), (18, .iload_n 0, []), (19, .bipush 90, []), (21, .if_icmp .gt 7, []), (24, .iconst 1, []), (25, .goto 4, []), (28, .iconst 0, []), (29, .ireturn, [])]
/-- IsHeIn$Reader.isLetter -/
def me90 : mM := (0, ⟨"IsHeIn$Reader", "isLetter", "(I)Z"⟩, prog_9_method_16_code, 1, (some .boolean), 7, [748, 134, 747, 0], mc90)
def mc91 : List mI := [(0, .iload_n 0, []), (1, .bipush 48, []), (3, .if_icmp .lt 13, []), (6, .iload_n 0, []), (7, .bipush 57, []), (9, .if_icmp .gt 7, []), (12, .iconst 1, []), (13, .goto 4, []), (16, .iconst 0, []), (17, .ireturn, [])]
/-- IsHeIn$Reader.isDigit -/
def me91 : mM := (0, ⟨"IsHeIn$Reader", "isDigit", "(I)Z"⟩, prog_9_method_17_code, 1, (some .boolean), 7, [819, 134, 818, 0], mc91)
def mc92 : List mI := [(0, .aload_n 0, []), (1, .sipush 275, []), (4, .aload_n 0, []), (5, .getfield 23, [7, 2, 315, 2, 1]), (8, .invokevirtual 162, [94, 2, 905, 0]), (11, .ifCond .ne 5, []), (14, .iconst 0, []), (15, .ireturn, []), (16, .aload_n 0, []), (17, .invokevirtual 80, [80, 0, 824, 0]), (20, .aload_n 0, []), (21, .sipush 276, []), (24, .iconst 1, []), (25, .sipush 999, []), (28, .aload_n 0, []), (29, .getfield 23, [7, 2, 315, 2, 1]), (32, .iconst 0, []), (33, .invokevirtual 166, [95, 5, 909, 0]), (36, .ifCond .eq 35, []), (39, .aload_n 0, []), (40, .sipush 277, []), (43, .iconst 1, []), (44, .sipush 999, []), (47, .aload_n 0, []), (48, .getfield 23, [7, 2, 315, 2, 1]), (51, .iconst 1, []), (52, .invokevirtual 166, [95, 5, 909, 0]), (55, .ifCond .eq 16, []), (58, .aload_n 0, []), (59, .bipush 59, []), (61, .invokevirtual 170, [81, 1, 897, 0]), (64, .ifCond .eq 7, []), (67, .iconst 1, []), (68, .goto 4, []), (71, .iconst 0, []), (72, .ireturn, [])]
/-- IsHeIn$Reader.readSign -/
def me92 : mM := (1, ⟨"IsHeIn$Reader", "readSign", "()Z"⟩, prog_9_method_18_code, 1, (some .boolean), 7, [904, 134, 903, 31], mc92)
def mc93 : List mI := [(0, .aload_n 0, []), (1, .sipush 278, []), (4, .aload_n 0, []), (5, .getfield 26, [7, 3, 317, 2, 1]), (8, .invokevirtual 162, [94, 2, 905, 0]), (11, .ifCond .eq 86, []), (14, .aload_n 0, []), (15, .sipush 278, []), (18, .iconst 0, []), (19, .iconst 3, []), (20, .aload_n 0, []), (21, .getfield 26, [7, 3, 317, 2, 1]), (24, .iconst 0, []), (25, .invokevirtual 166, [95, 5, 909, 0]), (28, .ifCond .eq 69, []), (31, .aload_n 0, []), (32, .sipush 279, []), (35, .iconst 0, []), (36, .bipush 23, []), (38, .aload_n 0, []), (39, .getfield 26, [7, 3, 317, 2, 1]), (42, .iconst 1, []), (43, .invokevirtual 166, [95, 5, 909, 0]), (46, .ifCond .eq 51, []), (49, .aload_n 0, []), (50, .sipush 280, []), (53, .iconst 1, []), (54, .bipush 24, []), (56, .aload_n 0, []), (57, .getfield 26, [7, 3, 317, 2, 1]), (60, .iconst 2, []), (61, .invokevirtual 166, [95, 5, 909, 0]), (64, .ifCond .eq 33, []), (67, .aload_n 0, []), (68, .sipush 281, []), (71, .iconst 0, []), (72, .iconst 1, []), (73, .aload_n 0, []), (74, .getfield 26, [7, 3, 317, 2, 1]), (77, .iconst 3, []), (78, .invokevirtual 166, [95, 5, 909, 0]), (81, .ifCond .eq 16, []), (84, .aload_n 0, []), (85, .bipush 59, []), (87, .invokevirtual 170, [81, 1, 897, 0]), (90, .ifCond .eq 7, []), (93, .iconst 1, []), (94, .goto 4, []), (97, .iconst 0, []), (98, .ireturn, [])]
/-- IsHeIn$Reader.readShift -/
def me93 : mM := (1, ⟨"IsHeIn$Reader", "readShift", "()Z"⟩, prog_9_method_19_code, 1, (some .boolean), 7, [916, 134, 915, 34], mc93)
def mc94 : List mI := [(0, .aload_n 0, []), (1, .getfield 61, [7, 14, 332, 0, 0]), (4, .iload_n 1, []), (5, .if_icmp .eq 9, []), (8, .aload_n 0, []), (9, .iconst 1, []), (10, .invokevirtual 105, [79, 1, 835, 0]), (13, .ireturn, []), (14, .aload_n 2, []), (15, .invokevirtual 135, [136, 0, 815, 0]), (18, .iconst (-1), []), (19, .if_icmp .ne 11, []), (22, .aload_n 0, []), (23, .iconst 3, []), (24, .invokevirtual 105, [79, 1, 835, 0]), (27, .ifCond .eq 7, []), (30, .iconst 1, []), (31, .goto 4, []), (34, .iconst 0, []), (35, .ireturn, [])]
/-- IsHeIn$Reader.readHead -/
def me94 : mM := (1, ⟨"IsHeIn$Reader", "readHead", "(ILIsHeIn$Table;)Z"⟩, prog_9_method_20_code, 3, (some .boolean), 7, [908, 134, 907, 32], mc94)
def mc95 : List mI := [(0, .aload_n 0, []), (1, .iload_n 1, []), (2, .invokevirtual 170, [81, 1, 897, 0]), (5, .ifCond .ne 5, []), (8, .iconst 0, []), (9, .ireturn, []), (10, .aload_n 0, []), (11, .getfield 61, [7, 14, 332, 0, 0]), (14, .bipush (-2), []), (16, .if_icmp .eq 9, []), (19, .aload_n 0, []), (20, .iconst 1, []), (21, .invokevirtual 105, [79, 1, 835, 0]), (24, .ireturn, []), (25, .aload_n 0, []), (26, .getfield 64, [7, 15, 333, 0, 0]), (29, .iload_n 2, []), (30, .iload_n 3, []), (31, .invokestatic 173, [188, 3, 9, 1]), (34, .ifCond .ne 9, []), (37, .aload_n 0, []), (38, .iconst 2, []), (39, .invokevirtual 105, [79, 1, 835, 0]), (42, .ireturn, []), (43, .aload 4, []), (45, .aload 4, []), (47, .getfield 93, [10, 3, 182, 0, 0]), (50, .iconst 1, []), (51, .isub, []), (52, .iload 5, []), (54, .aload_n 0, []), (55, .getfield 64, [7, 15, 333, 0, 0]), (58, .invokevirtual 139, [134, 3, 816, 0]), (61, .aload_n 0, []), (62, .invokevirtual 80, [80, 0, 824, 0]), (65, .iconst 1, []), (66, .ireturn, [])]
/-- IsHeIn$Reader.readNamed -/
def me95 : mM := (1, ⟨"IsHeIn$Reader", "readNamed", "(IIILIsHeIn$Table;I)Z"⟩, prog_9_method_21_code, 6, (some .boolean), 7, [912, 134, 911, 33], mc95)
def mc96 : List mI := [(0, .aload_n 0, []), (1, .getfield 61, [7, 14, 332, 0, 0]), (4, .sipush 256, []), (7, .sipush 261, []), (10, .invokestatic 173, [188, 3, 9, 1]), (13, .ifCond .ne 9, []), (16, .aload_n 0, []), (17, .iconst 1, []), (18, .invokevirtual 105, [79, 1, 835, 0]), (21, .ireturn, []), (22, .aload_n 0, []), (23, .getfield 14, [7, 0, 311, 2, 1]), (26, .invokevirtual 135, [136, 0, 815, 0]), (29, .istore_n 1, []), (30, .iload_n 1, []), (31, .iconst (-1), []), (32, .if_icmp .ne 9, []), (35, .aload_n 0, []), (36, .iconst 3, []), (37, .invokevirtual 105, [79, 1, 835, 0]), (40, .ireturn, []), (41, .aload_n 0, []), (42, .getfield 14, [7, 0, 311, 2, 1]), (45, .iload_n 1, []), (46, .iconst 0, []), (47, .aload_n 0, []), (48, .getfield 61, [7, 14, 332, 0, 0]), (51, .sipush 256, []), (54, .isub, []), (55, .invokevirtual 139, [134, 3, 816, 0]), (58, .aload_n 0, []), (59, .getfield 14, [7, 0, 311, 2, 1]), (62, .iload_n 1, []), (63, .iconst 1, []), (64, .aload_n 0, []), (65, .getfield 20, [7, 1, 313, 2, 1]), (68, .getfield 93, [10, 3, 182, 0, 0]), (71, .invokevirtual 139, [134, 3, 816, 0]), (74, .aload_n 0, []), (75, .invokevirtual 80, [80, 0, 824, 0]), (78, .aload_n 0, []), (79, .invokevirtual 176, [97, 0, 839, 0]), (82, .ifCond .ne 5, []), (85, .iconst 0, []), (86, .ireturn, []), (87, .aload_n 0, []), (88, .getfield 14, [7, 0, 311, 2, 1]), (91, .iload_n 1, []), (92, .iconst 2, []), (93, .aload_n 0, []), (94, .getfield 20, [7, 1, 313, 2, 1]), (97, .getfield 93, [10, 3, 182, 0, 0]), (100, .invokevirtual 139, [134, 3, 816, 0]), (103, .aload_n 0, []), (104, .getfield 61, [7, 14, 332, 0, 0]), (107, .sipush 271, []), (110, .if_icmp .ne 16, []), (113, .aload_n 0, []), (114, .invokevirtual 80, [80, 0, 824, 0]), (117, .aload_n 0, []), (118, .invokevirtual 179, [102, 0, 864, 0]), (121, .ifCond .ne 5, []), (124, .iconst 0, []), (125, .ireturn, []), (126, .aload_n 0, []), (127, .getfield 14, [7, 0, 311, 2, 1]), (130, .iload_n 1, []), (131, .iconst 3, []), (132, .aload_n 0, []), (133, .getfield 20, [7, 1, 313, 2, 1]), (136, .getfield 93, [10, 3, 182, 0, 0]), (139, .invokevirtual 139, [134, 3, 816, 0]), (142, .aload_n 0, []), (143, .bipush 59, []), (145, .invokevirtual 170, [81, 1, 897, 0]), (148, .ireturn, [])]
/-- IsHeIn$Reader.readLaw -/
def me96 : mM := (1, ⟨"IsHeIn$Reader", "readLaw", "()Z"⟩, prog_9_method_22_code, 2, (some .boolean), 7, [833, 134, 832, 16], mc96)
def mc97 : List mI := [(0, .aload_n 0, []), (1, .invokevirtual 182, [100, 0, 843, 0]), (4, .ifCond .ne 5, []), (7, .iconst 0, []), (8, .ireturn, []), (9, .iconst (-1), []), (10, .istore_n 1, []), (11, .iconst 0, []), (12, .istore_n 2, []), (13, .iload_n 2, []), (14, .sipush 400, []), (17, .if_icmp .ge 97, []), (20, .aload_n 0, []), (21, .getfield 61, [7, 14, 332, 0, 0]), (24, .invokestatic 185, [98, 1, 852, 0]), (27, .ifCond .eq 87, []), (30, .aload_n 0, []), (31, .getfield 61, [7, 14, 332, 0, 0]), (34, .istore_n 3, []), (35, .aload_n 0, []), (36, .invokevirtual 80, [80, 0, 824, 0]), (39, .iload_n 3, []), (40, .bipush 43, []), (42, .if_icmp .eq 9, []), (45, .iload_n 3, []), (46, .bipush 45, []), (48, .if_icmp .ne 20, []), (51, .aload_n 0, []), (52, .iload_n 1, []), (53, .invokevirtual 188, [99, 1, 855, 0]), (56, .iload_n 3, []), (57, .bipush 43, []), (59, .if_icmp .ne 7, []), (62, .iconst 2, []), (63, .goto 4, []), (66, .iconst 3, []), (67, .istore_n 1, []), (68, .iload_n 3, []), (69, .bipush 47, []), (71, .if_icmp .ne 13, []), (74, .aload_n 0, []), (75, .invokevirtual 192, [101, 0, 859, 0]), (78, .ifCond .ne 15, []), (81, .goto 10, []), (84, .aload_n 0, []), (85, .invokevirtual 182, [100, 0, 843, 0]), (88, .ifCond .ne 5, []), (91, .iconst 0, []), (92, .ireturn, []), (93, .aload_n 0, []), (94, .iload_n 3, []), (95, .bipush 42, []), (97, .if_icmp .ne 7, []), (100, .iconst 4, []), (101, .goto 4, []), (104, .iconst (-1), []), (105, .invokevirtual 188, [99, 1, 855, 0]), (108, .iinc 2 1, []), (111, .goto (-98), []), (114, .aload_n 0, []), (115, .iload_n 1, []), (116, .invokevirtual 188, [99, 1, 855, 0]), (119, .iconst 1, []), (120, .ireturn, [])]
/-- IsHeIn$Reader.readSum -/
def me97 : mM := (1, ⟨"IsHeIn$Reader", "readSum", "()Z"⟩, prog_9_method_23_code, 4, (some .boolean), 7, [842, 134, 841, 18], mc97)
def mc98 : List mI := [(0, .iload_n 0, []), (1, .bipush 43, []), (3, .if_icmp .eq 21, []), (6, .iload_n 0, []), (7, .bipush 45, []), (9, .if_icmp .eq 15, []), (12, .iload_n 0, []), (13, .bipush 42, []), (15, .if_icmp .eq 9, []), (18, .iload_n 0, []), (19, .bipush 47, []), (21, .if_icmp .ne 7, []), (24, .iconst 1, []), (25, .goto 4, []), (28, .iconst 0, []), (29, .ireturn, [])]
/-- IsHeIn$Reader.isReckoning -/
def me98 : mM := (0, ⟨"IsHeIn$Reader", "isReckoning", "(I)Z"⟩, prog_9_method_24_code, 1, (some .boolean), 7, [854, 134, 853, 0], mc98)
def mc99 : List mI := [(0, .iload_n 1, []), (1, .iconst (-1), []), (2, .if_icmp .eq 15, []), (5, .aload_n 0, []), (6, .getfield 20, [7, 1, 313, 2, 1]), (9, .iload_n 1, []), (10, .sipush 10000, []), (13, .imul, []), (14, .invokevirtual 195, [135, 1, 847, 0]), (17, .return_, [])]
/-- IsHeIn$Reader.emitIfAny -/
def me99 : mM := (1, ⟨"IsHeIn$Reader", "emitIfAny", "(I)V"⟩, prog_9_method_25_code, 2, none, 7, [858, 134, 857, 20], mc99)
def mc100 : List mI := [(0, .aload_n 0, []), (1, .getfield 61, [7, 14, 332, 0, 0]), (4, .sipush 256, []), (7, .isub, []), (8, .bipush 6, []), (10, .isub, []), (11, .istore_n 1, []), (12, .aload_n 0, []), (13, .getfield 61, [7, 14, 332, 0, 0]), (16, .bipush (-2), []), (18, .if_icmp .ne 19, []), (21, .aload_n 0, []), (22, .getfield 20, [7, 1, 313, 2, 1]), (25, .iconst 0, []), (26, .aload_n 0, []), (27, .getfield 64, [7, 15, 333, 0, 0]), (30, .iadd, []), (31, .invokevirtual 195, [135, 1, 847, 0]), (34, .goto 34, []), (37, .iload_n 1, []), (38, .ifCond .lt 24, []), (41, .iload_n 1, []), (42, .bipush 9, []), (44, .if_icmp .ge 18, []), (47, .aload_n 0, []), (48, .getfield 20, [7, 1, 313, 2, 1]), (51, .sipush 10000, []), (54, .iload_n 1, []), (55, .iadd, []), (56, .invokevirtual 195, [135, 1, 847, 0]), (59, .goto 9, []), (62, .aload_n 0, []), (63, .iconst 1, []), (64, .invokevirtual 105, [79, 1, 835, 0]), (67, .ireturn, []), (68, .aload_n 0, []), (69, .invokevirtual 80, [80, 0, 824, 0]), (72, .iconst 1, []), (73, .ireturn, [])]
/-- IsHeIn$Reader.readUnit -/
def me100 : mM := (1, ⟨"IsHeIn$Reader", "readUnit", "()Z"⟩, prog_9_method_26_code, 2, (some .boolean), 7, [846, 134, 845, 19], mc100)
def mc101 : List mI := [(0, .aload_n 0, []), (1, .getfield 61, [7, 14, 332, 0, 0]), (4, .bipush (-2), []), (6, .if_icmp .eq 9, []), (9, .aload_n 0, []), (10, .iconst 1, []), (11, .invokevirtual 105, [79, 1, 835, 0]), (14, .ireturn, []), (15, .aload_n 0, []), (16, .getfield 64, [7, 15, 333, 0, 0]), (19, .ifCond .ne 9, []), (22, .aload_n 0, []), (23, .iconst 2, []), (24, .invokevirtual 105, [79, 1, 835, 0]), (27, .ireturn, []), (28, .aload_n 0, []), (29, .getfield 20, [7, 1, 313, 2, 1]), (32, .ldc 198, [0, 50000, 863]), (34, .aload_n 0, []), (35, .getfield 64, [7, 15, 333, 0, 0]), (38, .iadd, []), (39, .invokevirtual 195, [135, 1, 847, 0]), (42, .aload_n 0, []), (43, .invokevirtual 80, [80, 0, 824, 0]), (46, .iconst 1, []), (47, .ireturn, [])]
/-- IsHeIn$Reader.readPart -/
def me101 : mM := (1, ⟨"IsHeIn$Reader", "readPart", "()Z"⟩, prog_9_method_27_code, 1, (some .boolean), 7, [862, 134, 861, 21], mc101)
def mc102 : List mI := [(0, .aload_n 0, []), (1, .iconst 0, []), (2, .putfield 39, [7, 7, 322, 0, 0]), (5, .aload_n 0, []), (6, .iconst 0, []), (7, .putfield 43, [7, 8, 323, 0, 0]), (10, .iconst 0, []), (11, .istore_n 1, []), (12, .iload_n 1, []), (13, .sipush 400, []), (16, .if_icmp .ge 142, []), (19, .aload_n 0, []), (20, .invokevirtual 199, [105, 0, 868, 0]), (23, .ifCond .eq 10, []), (26, .aload_n 0, []), (27, .invokevirtual 176, [97, 0, 839, 0]), (30, .ifCond .ne 5, []), (33, .iconst 0, []), (34, .ireturn, []), (35, .aload_n 0, []), (36, .invokevirtual 202, [106, 0, 876, 0]), (39, .istore_n 2, []), (40, .iload_n 2, []), (41, .iconst (-1), []), (42, .if_icmp .ne 9, []), (45, .aload_n 0, []), (46, .iconst 1, []), (47, .invokevirtual 105, [79, 1, 835, 0]), (50, .ireturn, []), (51, .aload_n 0, []), (52, .invokevirtual 80, [80, 0, 824, 0]), (55, .aload_n 0, []), (56, .invokevirtual 176, [97, 0, 839, 0]), (59, .ifCond .ne 5, []), (62, .iconst 0, []), (63, .ireturn, []), (64, .aload_n 0, []), (65, .getfield 20, [7, 1, 313, 2, 1]), (68, .iload_n 2, []), (69, .sipush 10000, []), (72, .imul, []), (73, .invokevirtual 195, [135, 1, 847, 0]), (76, .aload_n 0, []), (77, .invokevirtual 205, [107, 0, 880, 0]), (80, .aload_n 0, []), (81, .aload_n 0, []), (82, .getfield 61, [7, 14, 332, 0, 0]), (85, .sipush 273, []), (88, .if_icmp .ne 7, []), (91, .iconst 1, []), (92, .goto 4, []), (95, .iconst 0, []), (96, .invokevirtual 208, [109, 1, 893, 0]), (99, .aload_n 0, []), (100, .getfield 61, [7, 14, 332, 0, 0]), (103, .sipush 273, []), (106, .if_icmp .eq 34, []), (109, .aload_n 0, []), (110, .getfield 61, [7, 14, 332, 0, 0]), (113, .sipush 272, []), (116, .if_icmp .eq 24, []), (119, .aload_n 0, []), (120, .getfield 43, [7, 8, 323, 0, 0]), (123, .ifCond .eq 11, []), (126, .aload_n 0, []), (127, .iconst 1, []), (128, .invokevirtual 105, [79, 1, 835, 0]), (131, .ifCond .eq 7, []), (134, .iconst 1, []), (135, .goto 4, []), (138, .iconst 0, []), (139, .ireturn, []), (140, .aload_n 0, []), (141, .aload_n 0, []), (142, .getfield 61, [7, 14, 332, 0, 0]), (145, .invokevirtual 212, [103, 1, 872, 0]), (148, .aload_n 0, []), (149, .invokevirtual 80, [80, 0, 824, 0]), (152, .iinc 1 1, []), (155, .goto (-143), []), (158, .iconst 0, []), (159, .ireturn, [])]
/-- IsHeIn$Reader.readCondition -/
def me102 : mM := (1, ⟨"IsHeIn$Reader", "readCondition", "()Z"⟩, prog_9_method_28_code, 3, (some .boolean), 7, [867, 134, 866, 22], mc102)
def mc103 : List mI := [(0, .aload_n 0, []), (1, .getfield 36, [7, 6, 321, 2, 1]), (4, .aload_n 0, []), (5, .getfield 39, [7, 7, 322, 0, 0]), (8, .iload_n 1, []), (9, .invokestatic 70, [190, 3, 7, 1]), (12, .aload_n 0, []), (13, .dup, []), (14, .getfield 39, [7, 7, 322, 0, 0]), (17, .iconst 1, []), (18, .iadd, []), (19, .putfield 39, [7, 7, 322, 0, 0]), (22, .return_, [])]
/-- IsHeIn$Reader.hold -/
def me103 : mM := (1, ⟨"IsHeIn$Reader", "hold", "(I)V"⟩, prog_9_method_29_code, 2, none, 7, [875, 134, 874, 24], mc103)
def mc104 : List mI := [(0, .aload_n 0, []), (1, .getfield 39, [7, 7, 322, 0, 0]), (4, .ifCond .le 19, []), (7, .aload_n 0, []), (8, .getfield 36, [7, 6, 321, 2, 1]), (11, .aload_n 0, []), (12, .getfield 39, [7, 7, 322, 0, 0]), (15, .iconst 1, []), (16, .isub, []), (17, .invokestatic 112, [189, 2, 8, 1]), (20, .goto 4, []), (23, .iconst (-1), []), (24, .ireturn, [])]
/-- IsHeIn$Reader.lastWaiting -/
def me104 : mM := (1, ⟨"IsHeIn$Reader", "lastWaiting", "()I"⟩, prog_9_method_30_code, 1, (some .int), 7, [891, 134, 890, 28], mc104)
def mc105 : List mI := [(0, .iconst 0, []), (1, .istore_n 1, []), (2, .iload_n 1, []), (3, .sipush 400, []), (6, .if_icmp .ge 65, []), (9, .aload_n 0, []), (10, .getfield 61, [7, 14, 332, 0, 0]), (13, .bipush 40, []), (15, .if_icmp .eq 13, []), (18, .aload_n 0, []), (19, .getfield 61, [7, 14, 332, 0, 0]), (22, .sipush 274, []), (25, .if_icmp .ne 46, []), (28, .aload_n 0, []), (29, .getfield 43, [7, 8, 323, 0, 0]), (32, .bipush 8, []), (34, .if_icmp .lt 9, []), (37, .aload_n 0, []), (38, .iconst 3, []), (39, .invokevirtual 105, [79, 1, 835, 0]), (42, .ireturn, []), (43, .aload_n 0, []), (44, .aload_n 0, []), (45, .getfield 61, [7, 14, 332, 0, 0]), (48, .invokevirtual 212, [103, 1, 872, 0]), (51, .aload_n 0, []), (52, .dup, []), (53, .getfield 43, [7, 8, 323, 0, 0]), (56, .iconst 1, []), (57, .iadd, []), (58, .putfield 43, [7, 8, 323, 0, 0]), (61, .aload_n 0, []), (62, .invokevirtual 80, [80, 0, 824, 0]), (65, .iinc 1 1, []), (68, .goto (-66), []), (71, .iconst 1, []), (72, .ireturn, [])]
/-- IsHeIn$Reader.readOpenings -/
def me105 : mM := (1, ⟨"IsHeIn$Reader", "readOpenings", "()Z"⟩, prog_9_method_31_code, 2, (some .boolean), 7, [871, 134, 870, 23], mc105)
def mc106 : List mI := [(0, .aload_n 0, []), (1, .getfield 61, [7, 14, 332, 0, 0]), (4, .tableswitch 37 60 62 #[28, 31, 34], [28]), (32, .bipush 6, []), (34, .ireturn, []), (35, .bipush 7, []), (37, .ireturn, []), (38, .bipush 8, []), (40, .ireturn, []), (41, .iconst (-1), []), (42, .ireturn, [])]
/-- IsHeIn$Reader.stepOfComparison -/
def me106 : mM := (1, ⟨"IsHeIn$Reader", "stepOfComparison", "()I"⟩, prog_9_method_32_code, 1, (some .int), 7, [879, 134, 878, 25], mc106)
def mc107 : List mI := [(0, .aload_n 0, []), (1, .invokevirtual 215, [108, 0, 884, 0]), (4, .iconst 0, []), (5, .istore_n 1, []), (6, .iload_n 1, []), (7, .sipush 400, []), (10, .if_icmp .ge 58, []), (13, .aload_n 0, []), (14, .getfield 61, [7, 14, 332, 0, 0]), (17, .bipush 41, []), (19, .if_icmp .ne 49, []), (22, .aload_n 0, []), (23, .getfield 43, [7, 8, 323, 0, 0]), (26, .ifCond .le 42, []), (29, .aload_n 0, []), (30, .iconst 0, []), (31, .invokevirtual 208, [109, 1, 893, 0]), (34, .aload_n 0, []), (35, .dup, []), (36, .getfield 39, [7, 7, 322, 0, 0]), (39, .iconst 1, []), (40, .isub, []), (41, .putfield 39, [7, 7, 322, 0, 0]), (44, .aload_n 0, []), (45, .dup, []), (46, .getfield 43, [7, 8, 323, 0, 0]), (49, .iconst 1, []), (50, .isub, []), (51, .putfield 43, [7, 8, 323, 0, 0]), (54, .aload_n 0, []), (55, .invokevirtual 80, [80, 0, 824, 0]), (58, .aload_n 0, []), (59, .invokevirtual 215, [108, 0, 884, 0]), (62, .iinc 1 1, []), (65, .goto (-59), []), (68, .return_, [])]
/-- IsHeIn$Reader.readClosings -/
def me107 : mM := (1, ⟨"IsHeIn$Reader", "readClosings", "()V"⟩, prog_9_method_33_code, 2, none, 7, [883, 134, 882, 26], mc107)
def mc108 : List mI := [(0, .iconst 0, []), (1, .istore_n 1, []), (2, .iload_n 1, []), (3, .bipush 8, []), (5, .if_icmp .ge 48, []), (8, .aload_n 0, []), (9, .invokevirtual 218, [104, 0, 888, 0]), (12, .sipush 274, []), (15, .if_icmp .ne 38, []), (18, .aload_n 0, []), (19, .getfield 20, [7, 1, 313, 2, 1]), (22, .ldc 221, [0, 90000, 892]), (24, .invokevirtual 195, [135, 1, 847, 0]), (27, .aload_n 0, []), (28, .dup, []), (29, .getfield 39, [7, 7, 322, 0, 0]), (32, .iconst 1, []), (33, .isub, []), (34, .putfield 39, [7, 7, 322, 0, 0]), (37, .aload_n 0, []), (38, .dup, []), (39, .getfield 43, [7, 8, 323, 0, 0]), (42, .iconst 1, []), (43, .isub, []), (44, .putfield 43, [7, 8, 323, 0, 0]), (47, .iinc 1 1, []), (50, .goto (-48), []), (53, .return_, [])]
/-- IsHeIn$Reader.closeNots -/
def me108 : mM := (1, ⟨"IsHeIn$Reader", "closeNots", "()V"⟩, prog_9_method_34_code, 2, none, 7, [887, 134, 886, 27], mc108)
def mc109 : List mI := [(0, .iconst 0, []), (1, .istore_n 2, []), (2, .iload_n 2, []), (3, .bipush 64, []), (5, .if_icmp .ge 68, []), (8, .aload_n 0, []), (9, .invokevirtual 218, [104, 0, 888, 0]), (12, .istore_n 3, []), (13, .iload_n 3, []), (14, .sipush 273, []), (17, .if_icmp .eq 15, []), (20, .iload_n 3, []), (21, .sipush 272, []), (24, .if_icmp .ne 7, []), (27, .iload_n 1, []), (28, .ifCond .eq 4, []), (31, .return_, []), (32, .aload_n 0, []), (33, .getfield 20, [7, 1, 313, 2, 1]), (36, .iload_n 3, []), (37, .sipush 273, []), (40, .if_icmp .ne 8, []), (43, .bipush 10, []), (45, .goto 5, []), (48, .bipush 11, []), (50, .sipush 10000, []), (53, .imul, []), (54, .invokevirtual 195, [135, 1, 847, 0]), (57, .aload_n 0, []), (58, .dup, []), (59, .getfield 39, [7, 7, 322, 0, 0]), (62, .iconst 1, []), (63, .isub, []), (64, .putfield 39, [7, 7, 322, 0, 0]), (67, .iinc 2 1, []), (70, .goto (-68), []), (73, .return_, [])]
/-- IsHeIn$Reader.joinWhatWaits -/
def me109 : mM := (1, ⟨"IsHeIn$Reader", "joinWhatWaits", "(Z)V"⟩, prog_9_method_35_code, 4, none, 7, [896, 134, 895, 29], mc109)
def mc110 : List mI := [(0, .aload_n 0, []), (1, .invokespecial 3, [-1, 0, 450, 0]), (4, .aload_n 0, []), (5, .aload_n 1, []), (6, .putfield 9, [8, 0, 451, 2, 1]), (9, .return_, [])]
/-- IsHeIn$Records.<init> -/
def me110 : mM := (2, ⟨"IsHeIn$Records", "<init>", "(LIsHeIn$House;)V"⟩, prog_10_method_1_code, 2, none, 8, [449, 139, 448, 0], mc110)
def mc111 : List mI := [(0, .aload_n 0, []), (1, .getfield 9, [8, 0, 451, 2, 1]), (4, .getfield 15, [2, 0, 195, 2, 1]), (7, .iload_n 1, []), (8, .iconst 3, []), (9, .invokevirtual 21, [133, 2, 1010, 0]), (12, .istore_n 2, []), (13, .iload_n 2, []), (14, .iconst (-1), []), (15, .if_icmp .eq 12, []), (18, .iload_n 2, []), (19, .iload_n 1, []), (20, .if_icmp .eq 7, []), (23, .iconst 1, []), (24, .goto 4, []), (27, .iconst 0, []), (28, .ireturn, [])]
/-- IsHeIn$Records.hangsWrong -/
def me111 : mM := (1, ⟨"IsHeIn$Records", "hangsWrong", "(I)Z"⟩, prog_10_method_2_code, 3, (some .boolean), 8, [1043, 139, 1042, 39], mc111)
def mc112 : List mI := [(0, .iconst 0, []), (1, .istore_n 1, []), (2, .iconst 0, []), (3, .istore_n 2, []), (4, .iload_n 2, []), (5, .aload_n 0, []), (6, .getfield 9, [8, 0, 451, 2, 1]), (9, .getfield 15, [2, 0, 195, 2, 1]), (12, .getfield 27, [10, 3, 177, 0, 0]), (15, .if_icmp .ge 38, []), (18, .iload_n 1, []), (19, .aload_n 0, []), (20, .iload_n 2, []), (21, .invokevirtual 31, [111, 1, 1040, 0]), (24, .ifCond .eq 20, []), (27, .iconst 1, []), (28, .aload_n 0, []), (29, .getfield 9, [8, 0, 451, 2, 1]), (32, .getfield 15, [2, 0, 195, 2, 1]), (35, .iload_n 2, []), (36, .iconst 3, []), (37, .invokevirtual 21, [133, 2, 1010, 0]), (40, .ishl, []), (41, .goto 4, []), (44, .iconst 0, []), (45, .ior, []), (46, .istore_n 1, []), (47, .iinc 2 1, []), (50, .goto (-46), []), (53, .iload_n 1, []), (54, .ireturn, [])]
/-- IsHeIn$Records.wrongHooks -/
def me112 : mM := (1, ⟨"IsHeIn$Records", "wrongHooks", "()I"⟩, prog_10_method_3_code, 3, (some .int), 8, [1057, 139, 1055, 1056], mc112)
def mc113 : List mI := [(0, .iconst 0, []), (1, .istore_n 2, []), (2, .iload_n 1, []), (3, .istore_n 3, []), (4, .iconst 0, []), (5, .istore 4, []), (7, .iload 4, []), (9, .bipush 12, []), (11, .if_icmp .ge 45, []), (14, .aload_n 0, []), (15, .iload_n 3, []), (16, .invokevirtual 31, [111, 1, 1040, 0]), (19, .ifCond .ne 5, []), (22, .iconst 0, []), (23, .ireturn, []), (24, .iload_n 2, []), (25, .iconst 1, []), (26, .iload_n 3, []), (27, .ishl, []), (28, .ior, []), (29, .istore_n 2, []), (30, .aload_n 0, []), (31, .getfield 9, [8, 0, 451, 2, 1]), (34, .getfield 15, [2, 0, 195, 2, 1]), (37, .iload_n 3, []), (38, .iconst 3, []), (39, .invokevirtual 21, [133, 2, 1010, 0]), (42, .istore_n 3, []), (43, .iload_n 3, []), (44, .iload_n 1, []), (45, .if_icmp .ne 5, []), (48, .iload_n 2, []), (49, .ireturn, []), (50, .iinc 4 1, []), (53, .goto (-46), []), (56, .iconst 0, []), (57, .ireturn, [])]
/-- IsHeIn$Records.ringOf -/
def me113 : mM := (1, ⟨"IsHeIn$Records", "ringOf", "(I)I"⟩, prog_10_method_4_code, 5, (some .int), 8, [1039, 139, 1037, 1038], mc113)
def mc114 : List mI := [(0, .iconst 0, []), (1, .istore_n 1, []), (2, .iconst 0, []), (3, .istore_n 2, []), (4, .iload_n 2, []), (5, .aload_n 0, []), (6, .getfield 9, [8, 0, 451, 2, 1]), (9, .getfield 15, [2, 0, 195, 2, 1]), (12, .getfield 27, [10, 3, 177, 0, 0]), (15, .if_icmp .ge 49, []), (18, .aload_n 0, []), (19, .iload_n 2, []), (20, .invokevirtual 35, [113, 1, 1062, 0]), (23, .istore_n 3, []), (24, .iload_n 3, []), (25, .iconst 1, []), (26, .iload_n 2, []), (27, .ishl, []), (28, .iconst 1, []), (29, .isub, []), (30, .iand, []), (31, .ifCond .ne 7, []), (34, .iconst 1, []), (35, .goto 4, []), (38, .iconst 0, []), (39, .istore 4, []), (41, .iload_n 1, []), (42, .iload_n 3, []), (43, .ifCond .eq 12, []), (46, .iload 4, []), (48, .ifCond .eq 7, []), (51, .iconst 1, []), (52, .goto 4, []), (55, .iconst 0, []), (56, .iadd, []), (57, .istore_n 1, []), (58, .iinc 2 1, []), (61, .goto (-57), []), (64, .iload_n 1, []), (65, .ireturn, [])]
/-- IsHeIn$Records.ringCount -/
def me114 : mM := (1, ⟨"IsHeIn$Records", "ringCount", "()I"⟩, prog_10_method_5_code, 5, (some .int), 8, [1061, 139, 1059, 1060], mc114)
def mc115 : List mI := [(0, .iconst (-1), []), (1, .istore_n 1, []), (2, .iconst (-1), []), (3, .istore_n 2, []), (4, .iconst 0, []), (5, .istore_n 3, []), (6, .iload_n 3, []), (7, .aload_n 0, []), (8, .getfield 9, [8, 0, 451, 2, 1]), (11, .getfield 15, [2, 0, 195, 2, 1]), (14, .getfield 27, [10, 3, 177, 0, 0]), (17, .if_icmp .ge 79, []), (20, .aload_n 0, []), (21, .getfield 9, [8, 0, 451, 2, 1]), (24, .iload_n 3, []), (25, .invokevirtual 39, [44, 1, 1027, 0]), (28, .ifCond .eq 23, []), (31, .aload_n 0, []), (32, .getfield 9, [8, 0, 451, 2, 1]), (35, .getfield 15, [2, 0, 195, 2, 1]), (38, .iload_n 3, []), (39, .iconst 3, []), (40, .invokevirtual 21, [133, 2, 1010, 0]), (43, .iconst (-1), []), (44, .if_icmp .ne 7, []), (47, .iconst 1, []), (48, .goto 4, []), (51, .iconst 0, []), (52, .istore 4, []), (54, .iload 4, []), (56, .ifCond .eq 34, []), (59, .aload_n 0, []), (60, .getfield 9, [8, 0, 451, 2, 1]), (63, .getfield 15, [2, 0, 195, 2, 1]), (66, .iload_n 3, []), (67, .iconst 4, []), (68, .invokevirtual 21, [133, 2, 1010, 0]), (71, .iload_n 2, []), (72, .if_icmp .le 18, []), (75, .aload_n 0, []), (76, .getfield 9, [8, 0, 451, 2, 1]), (79, .getfield 15, [2, 0, 195, 2, 1]), (82, .iload_n 3, []), (83, .iconst 4, []), (84, .invokevirtual 21, [133, 2, 1010, 0]), (87, .istore_n 2, []), (88, .iload_n 3, []), (89, .istore_n 1, []), (90, .iinc 3 1, []), (93, .goto (-87), []), (96, .iload_n 1, []), (97, .ireturn, [])]
/-- IsHeIn$Records.longestOutWithKey -/
def me115 : mM := (1, ⟨"IsHeIn$Records", "longestOutWithKey", "()I"⟩, prog_10_method_6_code, 5, (some .int), 8, [1070, 139, 1068, 1069], mc115)
def mc116 : List mI := [(0, .iconst 0, []), (1, .istore_n 3, []), (2, .iconst 0, []), (3, .istore 4, []), (5, .iload 4, []), (7, .aload_n 0, []), (8, .getfield 9, [8, 0, 451, 2, 1]), (11, .getfield 42, [2, 1, 205, 2, 1]), (14, .getfield 27, [10, 3, 177, 0, 0]), (17, .if_icmp .ge 93, []), (20, .aload_n 0, []), (21, .getfield 9, [8, 0, 451, 2, 1]), (24, .getfield 42, [2, 1, 205, 2, 1]), (27, .iload 4, []), (29, .iconst 2, []), (30, .invokevirtual 21, [133, 2, 1010, 0]), (33, .iload_n 1, []), (34, .if_icmp .ne 24, []), (37, .aload_n 0, []), (38, .getfield 9, [8, 0, 451, 2, 1]), (41, .getfield 42, [2, 1, 205, 2, 1]), (44, .iload 4, []), (46, .iconst 1, []), (47, .invokevirtual 21, [133, 2, 1010, 0]), (50, .iconst 2, []), (51, .if_icmp .eq 7, []), (54, .iconst 1, []), (55, .goto 4, []), (58, .iconst 0, []), (59, .istore 5, []), (61, .aload_n 0, []), (62, .getfield 9, [8, 0, 451, 2, 1]), (65, .getfield 42, [2, 1, 205, 2, 1]), (68, .iload 4, []), (70, .iconst 4, []), (71, .invokevirtual 21, [133, 2, 1010, 0]), (74, .iconst (-1), []), (75, .if_icmp .eq 7, []), (78, .iconst 1, []), (79, .goto 4, []), (82, .iconst 0, []), (83, .istore 6, []), (85, .iload_n 3, []), (86, .iload 5, []), (88, .ifCond .eq 13, []), (91, .iload 6, []), (93, .iload_n 2, []), (94, .if_icmp .ne 7, []), (97, .iconst 1, []), (98, .goto 4, []), (101, .iconst 0, []), (102, .iadd, []), (103, .istore_n 3, []), (104, .iinc 4 1, []), (107, .goto (-102), []), (110, .iload_n 3, []), (111, .ireturn, [])]
/-- IsHeIn$Records.linesOf -/
def me116 : mM := (1, ⟨"IsHeIn$Records", "linesOf", "(IZ)I"⟩, prog_10_method_7_code, 7, (some .int), 8, [1009, 139, 1007, 1008], mc116)
def mc117 : List mI := [(0, .iconst 0, []), (1, .istore_n 3, []), (2, .iconst 0, []), (3, .istore 4, []), (5, .iload 4, []), (7, .aload_n 0, []), (8, .getfield 9, [8, 0, 451, 2, 1]), (11, .getfield 42, [2, 1, 205, 2, 1]), (14, .getfield 27, [10, 3, 177, 0, 0]), (17, .if_icmp .ge 63, []), (20, .aload_n 0, []), (21, .getfield 9, [8, 0, 451, 2, 1]), (24, .getfield 42, [2, 1, 205, 2, 1]), (27, .iload 4, []), (29, .iconst 3, []), (30, .invokevirtual 21, [133, 2, 1010, 0]), (33, .iload_n 1, []), (34, .if_icmp .ne 24, []), (37, .aload_n 0, []), (38, .getfield 9, [8, 0, 451, 2, 1]), (41, .getfield 42, [2, 1, 205, 2, 1]), (44, .iload 4, []), (46, .iconst 1, []), (47, .invokevirtual 21, [133, 2, 1010, 0]), (50, .iload_n 2, []), (51, .if_icmp .ne 7, []), (54, .iconst 1, []), (55, .goto 4, []), (58, .iconst 0, []), (59, .istore 5, []), (61, .iload_n 3, []), (62, .iload 5, []), (64, .ifCond .eq 7, []), (67, .iconst 1, []), (68, .goto 4, []), (71, .iconst 0, []), (72, .iadd, []), (73, .istore_n 3, []), (74, .iinc 4 1, []), (77, .goto (-72), []), (80, .iload_n 3, []), (81, .ireturn, [])]
/-- IsHeIn$Records.linesAt -/
def me117 : mM := (1, ⟨"IsHeIn$Records", "linesAt", "(II)I"⟩, prog_10_method_8_code, 6, (some .int), 8, [1018, 139, 1016, 1017], mc117)
def mc118 : List mI := [(0, .iconst 0, []), (1, .istore_n 2, []), (2, .iconst 0, []), (3, .istore_n 3, []), (4, .iload_n 3, []), (5, .aload_n 0, []), (6, .getfield 9, [8, 0, 451, 2, 1]), (9, .getfield 15, [2, 0, 195, 2, 1]), (12, .getfield 27, [10, 3, 177, 0, 0]), (15, .if_icmp .ge 39, []), (18, .iload_n 2, []), (19, .aload_n 0, []), (20, .getfield 9, [8, 0, 451, 2, 1]), (23, .iload_n 3, []), (24, .invokevirtual 39, [44, 1, 1027, 0]), (27, .ifCond .eq 18, []), (30, .aload_n 0, []), (31, .iload_n 3, []), (32, .invokevirtual 45, [119, 1, 1028, 0]), (35, .iload_n 1, []), (36, .if_icmp .ne 9, []), (39, .iconst 1, []), (40, .iload_n 3, []), (41, .ishl, []), (42, .goto 4, []), (45, .iconst 0, []), (46, .ior, []), (47, .istore_n 2, []), (48, .iinc 3 1, []), (51, .goto (-47), []), (54, .iload_n 2, []), (55, .ireturn, [])]
/-- IsHeIn$Records.outSeenBy -/
def me118 : mM := (1, ⟨"IsHeIn$Records", "outSeenBy", "(I)I"⟩, prog_10_method_9_code, 4, (some .int), 8, [1026, 139, 1024, 1025], mc118)
def mc119 : List mI := [(0, .aload_n 0, []), (1, .getfield 9, [8, 0, 451, 2, 1]), (4, .getfield 42, [2, 1, 205, 2, 1]), (7, .getfield 27, [10, 3, 177, 0, 0]), (10, .iconst 1, []), (11, .isub, []), (12, .istore_n 2, []), (13, .iload_n 2, []), (14, .ifCond .lt 53, []), (17, .aload_n 0, []), (18, .getfield 9, [8, 0, 451, 2, 1]), (21, .getfield 42, [2, 1, 205, 2, 1]), (24, .iload_n 2, []), (25, .iconst 2, []), (26, .invokevirtual 21, [133, 2, 1010, 0]), (29, .iload_n 1, []), (30, .if_icmp .ne 31, []), (33, .aload_n 0, []), (34, .getfield 9, [8, 0, 451, 2, 1]), (37, .getfield 42, [2, 1, 205, 2, 1]), (40, .iload_n 2, []), (41, .iconst 1, []), (42, .invokevirtual 21, [133, 2, 1010, 0]), (45, .ifCond .ne 16, []), (48, .aload_n 0, []), (49, .getfield 9, [8, 0, 451, 2, 1]), (52, .getfield 42, [2, 1, 205, 2, 1]), (55, .iload_n 2, []), (56, .iconst 4, []), (57, .invokevirtual 21, [133, 2, 1010, 0]), (60, .ireturn, []), (61, .iinc 2 (-1), []), (64, .goto (-51), []), (67, .iconst (-1), []), (68, .ireturn, [])]
/-- IsHeIn$Records.clerkOfLastGoing -/
def me119 : mM := (1, ⟨"IsHeIn$Records", "clerkOfLastGoing", "(I)I"⟩, prog_10_method_10_code, 3, (some .int), 8, [1031, 139, 1030, 38], mc119)
def mc120 : List mI := [(0, .aload_n 0, []), (1, .invokespecial 3, [-1, 0, 460, 0]), (4, .aload_n 0, []), (5, .bipush 8, []), (7, .newarray .int, [193]), (9, .putfield 9, [9, 2, 463, 2, 1]), (12, .aload_n 0, []), (13, .iconst 4, []), (14, .newarray .int, [193]), (16, .putfield 15, [9, 3, 464, 2, 1]), (19, .aload_n 0, []), (20, .iconst 4, []), (21, .newarray .int, [193]), (23, .putfield 18, [9, 4, 465, 2, 1]), (26, .aload_n 0, []), (27, .iconst 4, []), (28, .newarray .int, [193]), (30, .putfield 21, [9, 5, 466, 2, 1]), (33, .aload_n 0, []), (34, .iconst 0, []), (35, .putfield 24, [9, 6, 468, 0, 0]), (38, .aload_n 0, []), (39, .lconst 0, []), (40, .putfield 28, [9, 7, 470, 1, 0]), (43, .aload_n 0, []), (44, .aload_n 1, []), (45, .putfield 32, [9, 0, 461, 2, 1]), (48, .aload_n 0, []), (49, .aload_n 2, []), (50, .putfield 36, [9, 1, 462, 2, 1]), (53, .return_, [])]
/-- IsHeIn$Rounds.<init> -/
def me120 : mM := (2, ⟨"IsHeIn$Rounds", "<init>", "(LIsHeIn$House;LIsHeIn$Belief;)V"⟩, prog_11_method_1_code, 3, none, 9, [459, 140, 458, 0], mc120)
def mc121 : List mI := [(0, .iconst 0, []), (1, .istore_n 2, []), (2, .iload_n 2, []), (3, .aload_n 0, []), (4, .getfield 32, [9, 0, 461, 2, 1]), (7, .getfield 40, [2, 6, 219, 2, 1]), (10, .getfield 46, [10, 3, 174, 0, 0]), (13, .if_icmp .ge 36, []), (16, .aload_n 0, []), (17, .getfield 9, [9, 2, 463, 2, 1]), (20, .iload_n 2, []), (21, .aload_n 0, []), (22, .getfield 36, [9, 1, 462, 2, 1]), (25, .aload_n 0, []), (26, .getfield 32, [9, 0, 461, 2, 1]), (29, .getfield 40, [2, 6, 219, 2, 1]), (32, .iload_n 2, []), (33, .iconst 0, []), (34, .invokevirtual 51, [133, 2, 1324, 0]), (37, .invokevirtual 55, [1, 1, 1325, 0]), (40, .invokestatic 61, [190, 3, 13, 1]), (43, .iinc 2 1, []), (46, .goto (-44), []), (49, .iconst 0, []), (50, .istore_n 2, []), (51, .iload_n 2, []), (52, .aload_n 0, []), (53, .getfield 32, [9, 0, 461, 2, 1]), (56, .getfield 40, [2, 6, 219, 2, 1]), (59, .getfield 46, [10, 3, 174, 0, 0]), (62, .if_icmp .ge 20, []), (65, .aload_n 0, []), (66, .iload_n 2, []), (67, .invokevirtual 65, [122, 1, 1327, 0]), (70, .iload_n 1, []), (71, .if_icmp .ne 5, []), (74, .iload_n 2, []), (75, .ireturn, []), (76, .iinc 2 1, []), (79, .goto (-28), []), (82, .iconst (-1), []), (83, .ireturn, [])]
/-- IsHeIn$Rounds.roomAt -/
def me121 : mM := (1, ⟨"IsHeIn$Rounds", "roomAt", "(I)I"⟩, prog_11_method_2_code, 3, (some .int), 9, [1323, 140, 1321, 1322], mc121)
def mc122 : List mI := [(0, .iconst 0, []), (1, .istore_n 2, []), (2, .iconst 0, []), (3, .istore_n 3, []), (4, .iload_n 3, []), (5, .aload_n 0, []), (6, .getfield 32, [9, 0, 461, 2, 1]), (9, .getfield 40, [2, 6, 219, 2, 1]), (12, .getfield 46, [10, 3, 174, 0, 0]), (15, .if_icmp .ge 84, []), (18, .aload_n 0, []), (19, .getfield 9, [9, 2, 463, 2, 1]), (22, .iload_n 3, []), (23, .invokestatic 68, [189, 2, 14, 1]), (26, .aload_n 0, []), (27, .getfield 9, [9, 2, 463, 2, 1]), (30, .iload_n 1, []), (31, .invokestatic 68, [189, 2, 14, 1]), (34, .if_icmp .ge 7, []), (37, .iconst 1, []), (38, .goto 4, []), (41, .iconst 0, []), (42, .istore 4, []), (44, .aload_n 0, []), (45, .getfield 9, [9, 2, 463, 2, 1]), (48, .iload_n 3, []), (49, .invokestatic 68, [189, 2, 14, 1]), (52, .aload_n 0, []), (53, .getfield 9, [9, 2, 463, 2, 1]), (56, .iload_n 1, []), (57, .invokestatic 68, [189, 2, 14, 1]), (60, .if_icmp .ne 7, []), (63, .iconst 1, []), (64, .goto 4, []), (67, .iconst 0, []), (68, .istore 5, []), (70, .iload_n 2, []), (71, .iload 4, []), (73, .ifCond .ne 13, []), (76, .iload 5, []), (78, .ifCond .eq 12, []), (81, .iload_n 3, []), (82, .iload_n 1, []), (83, .if_icmp .ge 7, []), (86, .iconst 1, []), (87, .goto 4, []), (90, .iconst 0, []), (91, .iadd, []), (92, .istore_n 2, []), (93, .iinc 3 1, []), (96, .goto (-92), []), (99, .iload_n 2, []), (100, .ireturn, [])]
/-- IsHeIn$Rounds.roomsBefore -/
def me122 : mM := (1, ⟨"IsHeIn$Rounds", "roomsBefore", "(I)I"⟩, prog_11_method_3_code, 6, (some .int), 9, [1330, 140, 1329, 50], mc122)
def mc123 : List mI := [(0, .iconst 0, []), (1, .istore_n 1, []), (2, .iconst 1, []), (3, .istore_n 2, []), (4, .iload_n 2, []), (5, .iconst 1, []), (6, .aload_n 0, []), (7, .getfield 32, [9, 0, 461, 2, 1]), (10, .getfield 40, [2, 6, 219, 2, 1]), (13, .getfield 46, [10, 3, 174, 0, 0]), (16, .ishl, []), (17, .if_icmp .ge 28, []), (20, .aload_n 0, []), (21, .iload_n 2, []), (22, .invokevirtual 72, [126, 1, 1340, 0]), (25, .ifCond .eq 14, []), (28, .aload_n 0, []), (29, .iload_n 2, []), (30, .iload_n 1, []), (31, .invokevirtual 76, [124, 2, 1348, 0]), (34, .ifCond .eq 5, []), (37, .iload_n 2, []), (38, .istore_n 1, []), (39, .iinc 2 1, []), (42, .goto (-38), []), (45, .iload_n 1, []), (46, .ireturn, [])]
/-- IsHeIn$Rounds.bestRooms -/
def me123 : mM := (1, ⟨"IsHeIn$Rounds", "bestRooms", "()I"⟩, prog_11_method_4_code, 3, (some .int), 9, [1339, 140, 1337, 1338], mc123)
def mc124 : List mI := [(0, .aload_n 0, []), (1, .iload_n 1, []), (2, .invokevirtual 80, [125, 1, 1352, 0]), (5, .aload_n 0, []), (6, .iload_n 2, []), (7, .invokevirtual 80, [125, 1, 1352, 0]), (10, .isub, []), (11, .istore_n 3, []), (12, .iload_n 3, []), (13, .ifCond .gt 18, []), (16, .iload_n 3, []), (17, .ifCond .ne 18, []), (20, .iload_n 1, []), (21, .invokestatic 83, [320, 1, 1356, 0]), (24, .iload_n 2, []), (25, .invokestatic 83, [320, 1, 1356, 0]), (28, .if_icmp .ge 7, []), (31, .iconst 1, []), (32, .goto 4, []), (35, .iconst 0, []), (36, .ireturn, [])]
/-- IsHeIn$Rounds.isBetter -/
def me124 : mM := (1, ⟨"IsHeIn$Rounds", "isBetter", "(II)Z"⟩, prog_11_method_5_code, 4, (some .boolean), 9, [1351, 140, 1350, 53], mc124)
def mc125 : List mI := [(0, .iconst 0, []), (1, .istore_n 2, []), (2, .iconst 0, []), (3, .istore_n 3, []), (4, .iload_n 3, []), (5, .aload_n 0, []), (6, .getfield 32, [9, 0, 461, 2, 1]), (9, .getfield 40, [2, 6, 219, 2, 1]), (12, .getfield 46, [10, 3, 174, 0, 0]), (15, .if_icmp .ge 37, []), (18, .iload_n 2, []), (19, .iload_n 1, []), (20, .iload_n 3, []), (21, .ishr, []), (22, .iconst 1, []), (23, .iand, []), (24, .iconst 1, []), (25, .if_icmp .ne 18, []), (28, .aload_n 0, []), (29, .getfield 32, [9, 0, 461, 2, 1]), (32, .getfield 40, [2, 6, 219, 2, 1]), (35, .iload_n 3, []), (36, .iconst 3, []), (37, .invokevirtual 51, [133, 2, 1324, 0]), (40, .goto 4, []), (43, .iconst 0, []), (44, .iadd, []), (45, .istore_n 2, []), (46, .iinc 3 1, []), (49, .goto (-45), []), (52, .iload_n 2, []), (53, .ireturn, [])]
/-- IsHeIn$Rounds.worthOf -/
def me125 : mM := (1, ⟨"IsHeIn$Rounds", "worthOf", "(I)I"⟩, prog_11_method_6_code, 4, (some .int), 9, [1355, 140, 1353, 1354], mc125)
def mc126 : List mI := [(0, .iconst 0, []), (1, .istore_n 2, []), (2, .iload_n 2, []), (3, .aload_n 0, []), (4, .getfield 32, [9, 0, 461, 2, 1]), (7, .getfield 40, [2, 6, 219, 2, 1]), (10, .getfield 46, [10, 3, 174, 0, 0]), (13, .if_icmp .ge 43, []), (16, .aload_n 0, []), (17, .getfield 32, [9, 0, 461, 2, 1]), (20, .getfield 40, [2, 6, 219, 2, 1]), (23, .iload_n 2, []), (24, .iconst 2, []), (25, .invokevirtual 51, [133, 2, 1324, 0]), (28, .istore_n 3, []), (29, .iload_n 1, []), (30, .iload_n 2, []), (31, .ishr, []), (32, .iconst 1, []), (33, .iand, []), (34, .iconst 1, []), (35, .if_icmp .ne 15, []), (38, .aload_n 0, []), (39, .iload_n 1, []), (40, .iload_n 3, []), (41, .invokevirtual 88, [127, 2, 1344, 0]), (44, .iload_n 3, []), (45, .if_icmp .le 5, []), (48, .iconst 0, []), (49, .ireturn, []), (50, .iinc 2 1, []), (53, .goto (-51), []), (56, .iconst 1, []), (57, .ireturn, [])]
/-- IsHeIn$Rounds.canBeDone -/
def me126 : mM := (1, ⟨"IsHeIn$Rounds", "canBeDone", "(I)Z"⟩, prog_11_method_7_code, 4, (some .boolean), 9, [1343, 140, 1342, 51], mc126)
def mc127 : List mI := [(0, .iconst 0, []), (1, .istore_n 3, []), (2, .iconst 0, []), (3, .istore 4, []), (5, .iload 4, []), (7, .aload_n 0, []), (8, .getfield 32, [9, 0, 461, 2, 1]), (11, .getfield 40, [2, 6, 219, 2, 1]), (14, .getfield 46, [10, 3, 174, 0, 0]), (17, .if_icmp .ge 68, []), (20, .iload_n 1, []), (21, .iload 4, []), (23, .ishr, []), (24, .iconst 1, []), (25, .iand, []), (26, .iconst 1, []), (27, .if_icmp .ne 24, []), (30, .aload_n 0, []), (31, .getfield 32, [9, 0, 461, 2, 1]), (34, .getfield 40, [2, 6, 219, 2, 1]), (37, .iload 4, []), (39, .iconst 2, []), (40, .invokevirtual 51, [133, 2, 1324, 0]), (43, .iload_n 2, []), (44, .if_icmp .gt 7, []), (47, .iconst 1, []), (48, .goto 4, []), (51, .iconst 0, []), (52, .istore 5, []), (54, .iload_n 3, []), (55, .iload 5, []), (57, .ifCond .eq 19, []), (60, .aload_n 0, []), (61, .getfield 32, [9, 0, 461, 2, 1]), (64, .getfield 40, [2, 6, 219, 2, 1]), (67, .iload 4, []), (69, .iconst 1, []), (70, .invokevirtual 51, [133, 2, 1324, 0]), (73, .goto 4, []), (76, .iconst 0, []), (77, .iadd, []), (78, .istore_n 3, []), (79, .iinc 4 1, []), (82, .goto (-77), []), (85, .iload_n 3, []), (86, .ireturn, [])]
/-- IsHeIn$Rounds.minutesDueBy -/
def me127 : mM := (1, ⟨"IsHeIn$Rounds", "minutesDueBy", "(II)I"⟩, prog_11_method_8_code, 6, (some .int), 9, [1347, 140, 1346, 52], mc127)
def mc128 : List mI := [(0, .iconst 0, []), (1, .istore_n 2, []), (2, .iload_n 2, []), (3, .aload_n 0, []), (4, .getfield 15, [9, 3, 464, 2, 1]), (7, .arraylength, []), (8, .if_icmp .ge 16, []), (11, .aload_n 0, []), (12, .getfield 15, [9, 3, 464, 2, 1]), (15, .iload_n 2, []), (16, .iconst 0, []), (17, .iastore, []), (18, .iinc 2 1, []), (21, .goto (-19), []), (24, .iconst 0, []), (25, .istore_n 2, []), (26, .iload_n 2, []), (27, .aload_n 0, []), (28, .getfield 32, [9, 0, 461, 2, 1]), (31, .getfield 91, [2, 0, 202, 2, 1]), (34, .getfield 46, [10, 3, 174, 0, 0]), (37, .if_icmp .ge 47, []), (40, .aload_n 0, []), (41, .getfield 32, [9, 0, 461, 2, 1]), (44, .getfield 91, [2, 0, 202, 2, 1]), (47, .iload_n 2, []), (48, .iconst 0, []), (49, .invokevirtual 51, [133, 2, 1324, 0]), (52, .istore_n 3, []), (53, .aload_n 0, []), (54, .getfield 15, [9, 3, 464, 2, 1]), (57, .iload_n 3, []), (58, .aload_n 0, []), (59, .getfield 15, [9, 3, 464, 2, 1]), (62, .iload_n 3, []), (63, .invokestatic 68, [189, 2, 14, 1]), (66, .aload_n 0, []), (67, .getfield 36, [9, 1, 462, 2, 1]), (70, .iload_n 2, []), (71, .invokevirtual 55, [1, 1, 1325, 0]), (74, .iadd, []), (75, .invokestatic 61, [190, 3, 13, 1]), (78, .iinc 2 1, []), (81, .goto (-55), []), (84, .aload_n 0, []), (85, .ldc2_w 94, [-1, 1366]), (88, .putfield 28, [9, 7, 470, 1, 0]), (91, .aload_n 0, []), (92, .iconst 0, []), (93, .putfield 24, [9, 6, 468, 0, 0]), (96, .aload_n 0, []), (97, .iload_n 1, []), (98, .iconst 0, []), (99, .iconst 0, []), (100, .iconst 0, []), (101, .lconst 0, []), (102, .invokevirtual 96, [129, 5, 1367, 0]), (105, .return_, [])]
/-- IsHeIn$Rounds.searchFloors -/
def me128 : mM := (1, ⟨"IsHeIn$Rounds", "searchFloors", "(I)V"⟩, prog_11_method_9_code, 4, none, 9, [1365, 140, 1363, 1364], mc128)
def mc129 : List mI := [(0, .lload 5, []), (2, .aload_n 0, []), (3, .getfield 28, [9, 7, 470, 1, 0]), (6, .lcmp, []), (7, .ifCond .le 55, []), (10, .aload_n 0, []), (11, .lload 5, []), (13, .putfield 28, [9, 7, 470, 1, 0]), (16, .aload_n 0, []), (17, .iload 4, []), (19, .putfield 24, [9, 6, 468, 0, 0]), (22, .iconst 0, []), (23, .istore 7, []), (25, .iload 7, []), (27, .iload 4, []), (29, .if_icmp .ge 33, []), (32, .iload 7, []), (34, .iconst 4, []), (35, .if_icmp .ge 27, []), (38, .aload_n 0, []), (39, .getfield 21, [9, 5, 466, 2, 1]), (42, .iload 7, []), (44, .aload_n 0, []), (45, .getfield 18, [9, 4, 465, 2, 1]), (48, .iload 7, []), (50, .invokestatic 68, [189, 2, 14, 1]), (53, .invokestatic 61, [190, 3, 13, 1]), (56, .iinc 7 1, []), (59, .goto (-34), []), (62, .iconst 0, []), (63, .istore 7, []), (65, .iload 7, []), (67, .iconst 4, []), (68, .if_icmp .ge 86, []), (71, .iload 4, []), (73, .iconst 4, []), (74, .if_icmp .ge 80, []), (77, .iload_n 1, []), (78, .iconst 3, []), (79, .isub, []), (80, .iconst 2, []), (81, .iload 7, []), (83, .iload_n 2, []), (84, .isub, []), (85, .invokestatic 100, [-3, 0, 1371]), (88, .imul, []), (89, .isub, []), (90, .istore 8, []), (92, .iload_n 3, []), (93, .iload 7, []), (95, .ishr, []), (96, .iconst 1, []), (97, .iand, []), (98, .ifCond .ne 50, []), (101, .iload 8, []), (103, .ifCond .lt 45, []), (106, .aload_n 0, []), (107, .getfield 18, [9, 4, 465, 2, 1]), (110, .iload 4, []), (112, .iload 7, []), (114, .invokestatic 61, [190, 3, 13, 1]), (117, .aload_n 0, []), (118, .iload 8, []), (120, .iload 7, []), (122, .iload_n 3, []), (123, .iconst 1, []), (124, .iload 7, []), (126, .ishl, []), (127, .ior, []), (128, .iload 4, []), (130, .iconst 1, []), (131, .iadd, []), (132, .lload 5, []), (134, .aload_n 0, []), (135, .getfield 15, [9, 3, 464, 2, 1]), (138, .iload 7, []), (140, .invokestatic 68, [189, 2, 14, 1]), (143, .i2l, []), (144, .ladd, []), (145, .invokevirtual 96, [129, 5, 1367, 0]), (148, .iinc 7 1, []), (151, .goto (-86), []), (154, .return_, [])]
/-- IsHeIn$Rounds.searchOn -/
def me129 : mM := (1, ⟨"IsHeIn$Rounds", "searchOn", "(IIIIJ)V"⟩, prog_11_method_10_code, 9, none, 9, [1370, 140, 1369, 54], mc129)
def mc130 : List mI := [(0, .aload_n 0, []), (1, .invokespecial 3, [-1, 0, 166, 0]), (4, .aload_n 0, []), (5, .iconst 0, []), (6, .putfield 9, [10, 3, 173, 0, 0]), (9, .aload_n 0, []), (10, .iload_n 1, []), (11, .iconst 0, []), (12, .invokestatic 15, [-3, 1, 167]), (15, .putfield 21, [10, 0, 170, 0, 1]), (18, .aload_n 0, []), (19, .iload_n 2, []), (20, .iconst 0, []), (21, .invokestatic 15, [-3, 1, 167]), (24, .putfield 24, [10, 1, 171, 0, 1]), (27, .aload_n 0, []), (28, .aload_n 0, []), (29, .getfield 21, [10, 0, 170, 0, 1]), (32, .aload_n 0, []), (33, .getfield 24, [10, 1, 171, 0, 1]), (36, .imul, []), (37, .iconst 0, []), (38, .invokestatic 15, [-3, 1, 167]), (41, .newarray .int, [193]), (43, .putfield 27, [10, 2, 172, 2, 1]), (46, .return_, [])]
/-- IsHeIn$Table.<init> -/
def me130 : mM := (2, ⟨"IsHeIn$Table", "<init>", "(II)V"⟩, prog_12_method_1_code, 3, none, 10, [165, 130, 164, 0], mc130)
def mc131 : List mI := [(0, .iload_n 1, []), (1, .ifCond .lt 15, []), (4, .iload_n 1, []), (5, .aload_n 0, []), (6, .getfield 9, [10, 3, 173, 0, 0]), (9, .if_icmp .ge 7, []), (12, .iconst 1, []), (13, .goto 4, []), (16, .iconst 0, []), (17, .ireturn, [])]
/-- IsHeIn$Table.hasRow -/
def me131 : mM := (1, ⟨"IsHeIn$Table", "hasRow", "(I)Z"⟩, prog_12_method_2_code, 2, (some .boolean), 10, [574, 130, 572, 573], mc131)
def mc132 : List mI := [(0, .aload_n 0, []), (1, .getfield 9, [10, 3, 173, 0, 0]), (4, .aload_n 0, []), (5, .getfield 21, [10, 0, 170, 0, 1]), (8, .if_icmp .lt 7, []), (11, .iconst 1, []), (12, .goto 4, []), (15, .iconst 0, []), (16, .ireturn, [])]
/-- IsHeIn$Table.isFull -/
def me132 : mM := (1, ⟨"IsHeIn$Table", "isFull", "()Z"⟩, prog_12_method_3_code, 1, (some .boolean), 10, [541, 130, 539, 540], mc132)
def mc133 : List mI := [(0, .iload_n 1, []), (1, .aload_n 0, []), (2, .getfield 24, [10, 1, 171, 0, 1]), (5, .imul, []), (6, .iload_n 2, []), (7, .iadd, []), (8, .istore_n 3, []), (9, .iload_n 1, []), (10, .ifCond .lt 27, []), (13, .iload_n 1, []), (14, .aload_n 0, []), (15, .getfield 9, [10, 3, 173, 0, 0]), (18, .if_icmp .ge 19, []), (21, .iload_n 2, []), (22, .ifCond .lt 15, []), (25, .iload_n 2, []), (26, .aload_n 0, []), (27, .getfield 24, [10, 1, 171, 0, 1]), (30, .if_icmp .ge 7, []), (33, .iconst 1, []), (34, .goto 4, []), (37, .iconst 0, []), (38, .istore 4, []), (40, .iload 4, []), (42, .ifCond .eq 25, []), (45, .iload_n 3, []), (46, .ifCond .lt 21, []), (49, .iload_n 3, []), (50, .aload_n 0, []), (51, .getfield 27, [10, 2, 172, 2, 1]), (54, .arraylength, []), (55, .if_icmp .ge 12, []), (58, .aload_n 0, []), (59, .getfield 27, [10, 2, 172, 2, 1]), (62, .iload_n 3, []), (63, .iaload, []), (64, .goto 4, []), (67, .iconst 0, []), (68, .ireturn, [])]
/-- IsHeIn$Table.at -/
def me133 : mM := (1, ⟨"IsHeIn$Table", "at", "(II)I"⟩, prog_12_method_4_code, 5, (some .int), 10, [587, 130, 585, 586], mc133)
def mc134 : List mI := [(0, .iload_n 1, []), (1, .aload_n 0, []), (2, .getfield 24, [10, 1, 171, 0, 1]), (5, .imul, []), (6, .iload_n 2, []), (7, .iadd, []), (8, .istore 4, []), (10, .iload_n 1, []), (11, .ifCond .lt 27, []), (14, .iload_n 1, []), (15, .aload_n 0, []), (16, .getfield 9, [10, 3, 173, 0, 0]), (19, .if_icmp .ge 19, []), (22, .iload_n 2, []), (23, .ifCond .lt 15, []), (26, .iload_n 2, []), (27, .aload_n 0, []), (28, .getfield 24, [10, 1, 171, 0, 1]), (31, .if_icmp .ge 7, []), (34, .iconst 1, []), (35, .goto 4, []), (38, .iconst 0, []), (39, .istore 5, []), (41, .iload 5, []), (43, .ifCond .eq 26, []), (46, .iload 4, []), (48, .ifCond .lt 21, []), (51, .iload 4, []), (53, .aload_n 0, []), (54, .getfield 27, [10, 2, 172, 2, 1]), (57, .arraylength, []), (58, .if_icmp .ge 11, []), (61, .aload_n 0, []), (62, .getfield 27, [10, 2, 172, 2, 1]), (65, .iload 4, []), (67, .iload_n 3, []), (68, .iastore, []), (69, .return_, [])]
/-- IsHeIn$Table.put -/
def me134 : mM := (1, ⟨"IsHeIn$Table", "put", "(III)V"⟩, prog_12_method_5_code, 6, none, 10, [554, 130, 552, 553], mc134)
def mc135 : List mI := [(0, .aload_n 0, []), (1, .getfield 9, [10, 3, 173, 0, 0]), (4, .aload_n 0, []), (5, .getfield 21, [10, 0, 170, 0, 1]), (8, .if_icmp .ge 25, []), (11, .aload_n 0, []), (12, .dup, []), (13, .getfield 9, [10, 3, 173, 0, 0]), (16, .iconst 1, []), (17, .iadd, []), (18, .putfield 9, [10, 3, 173, 0, 0]), (21, .aload_n 0, []), (22, .aload_n 0, []), (23, .getfield 9, [10, 3, 173, 0, 0]), (26, .iconst 1, []), (27, .isub, []), (28, .iconst 0, []), (29, .iload_n 1, []), (30, .invokevirtual 31, [134, 3, 851, 0]), (33, .return_, [])]
/-- IsHeIn$Table.push -/
def me135 : mM := (1, ⟨"IsHeIn$Table", "push", "(I)V"⟩, prog_12_method_6_code, 2, none, 10, [850, 130, 848, 849], mc135)
def mc136 : List mI := [(0, .aload_n 0, []), (1, .invokevirtual 35, [132, 0, 550, 0]), (4, .ifCond .eq 5, []), (7, .iconst (-1), []), (8, .ireturn, []), (9, .aload_n 0, []), (10, .dup, []), (11, .getfield 9, [10, 3, 173, 0, 0]), (14, .iconst 1, []), (15, .iadd, []), (16, .putfield 9, [10, 3, 173, 0, 0]), (19, .aload_n 0, []), (20, .getfield 9, [10, 3, 173, 0, 0]), (23, .iconst 1, []), (24, .isub, []), (25, .ireturn, [])]
/-- IsHeIn$Table.add -/
def me136 : mM := (1, ⟨"IsHeIn$Table", "add", "()I"⟩, prog_12_method_7_code, 1, (some .int), 10, [549, 130, 547, 548], mc136)
def mc137 : List mI := [(0, .aload_n 0, []), (1, .iconst 0, []), (2, .putfield 9, [10, 3, 173, 0, 0]), (5, .return_, [])]
/-- IsHeIn$Table.clear -/
def me137 : mM := (1, ⟨"IsHeIn$Table", "clear", "()V"⟩, prog_12_method_8_code, 1, none, 10, [737, 130, 735, 736], mc137)
def mc138 : List mI := [(0, .aload_n 0, []), (1, .aload_n 1, []), (2, .getfield 9, [10, 3, 173, 0, 0]), (5, .aload_n 0, []), (6, .getfield 21, [10, 0, 170, 0, 1]), (9, .invokestatic 39, [-3, 3, 612]), (12, .putfield 9, [10, 3, 173, 0, 0]), (15, .aload_n 0, []), (16, .getfield 9, [10, 3, 173, 0, 0]), (19, .aload_n 0, []), (20, .getfield 24, [10, 1, 171, 0, 1]), (23, .imul, []), (24, .istore_n 2, []), (25, .iconst 0, []), (26, .istore_n 3, []), (27, .iload_n 3, []), (28, .iload_n 2, []), (29, .if_icmp .ge 39, []), (32, .iload_n 3, []), (33, .aload_n 0, []), (34, .getfield 27, [10, 2, 172, 2, 1]), (37, .arraylength, []), (38, .if_icmp .ge 30, []), (41, .iload_n 3, []), (42, .aload_n 1, []), (43, .getfield 27, [10, 2, 172, 2, 1]), (46, .arraylength, []), (47, .if_icmp .ge 21, []), (50, .aload_n 0, []), (51, .getfield 27, [10, 2, 172, 2, 1]), (54, .iload_n 3, []), (55, .aload_n 1, []), (56, .getfield 27, [10, 2, 172, 2, 1]), (59, .iload_n 3, []), (60, .iaload, []), (61, .iastore, []), (62, .iinc 3 1, []), (65, .goto (-38), []), (68, .return_, [])]
/-- IsHeIn$Table.copyFrom -/
def me138 : mM := (1, ⟨"IsHeIn$Table", "copyFrom", "(LIsHeIn$Table;)V"⟩, prog_12_method_9_code, 4, none, 10, [611, 130, 609, 610], mc138)
def mc139 : List mI := [(0, .aload_n 0, []), (1, .invokespecial 3, [-1, 0, 152, 0]), (4, .aload_n 0, []), (5, .new 9, [2, 155, 156, 129]), (8, .dup, []), (9, .invokespecial 11, [37, 0, 0, 1]), (12, .putfield 12, [11, 0, 489, 2, 1]), (15, .aload_n 0, []), (16, .new 9, [2, 155, 156, 129]), (19, .dup, []), (20, .invokespecial 11, [37, 0, 0, 1]), (23, .putfield 16, [11, 1, 490, 2, 1]), (26, .aload_n 0, []), (27, .iconst 0, []), (28, .putfield 19, [11, 2, 491, 3, 0]), (31, .aload_n 0, []), (32, .new 23, [5, 264, 265, 132]), (35, .dup, []), (36, .invokespecial 25, [63, 0, 266, 0]), (39, .putfield 26, [11, 3, 492, 2, 1]), (42, .aload_n 0, []), (43, .new 30, [7, 303, 304, 134]), (46, .dup, []), (47, .invokespecial 32, [75, 0, 2, 1]), (50, .putfield 33, [11, 4, 493, 2, 1]), (53, .aload_n 0, []), (54, .new 37, [3, 370, 371, 135]), (57, .dup, []), (58, .aload_n 0, []), (59, .getfield 12, [11, 0, 489, 2, 1]), (62, .invokespecial 39, [53, 1, 372, 0]), (65, .putfield 42, [11, 5, 494, 2, 1]), (68, .aload_n 0, []), (69, .new 46, [6, 386, 387, 136]), (72, .dup, []), (73, .aload_n 0, []), (74, .getfield 12, [11, 0, 489, 2, 1]), (77, .aload_n 0, []), (78, .getfield 42, [11, 5, 494, 2, 1]), (81, .invokespecial 48, [68, 2, 388, 0]), (84, .putfield 51, [11, 6, 495, 2, 1]), (87, .aload_n 0, []), (88, .new 55, [0, 402, 403, 137]), (91, .dup, []), (92, .aload_n 0, []), (93, .getfield 12, [11, 0, 489, 2, 1]), (96, .aload_n 0, []), (97, .getfield 42, [11, 5, 494, 2, 1]), (100, .invokespecial 57, [0, 2, 404, 0]), (103, .putfield 58, [11, 7, 496, 2, 1]), (106, .aload_n 0, []), (107, .new 62, [1, 424, 425, 138]), (110, .dup, []), (111, .aload_n 0, []), (112, .getfield 12, [11, 0, 489, 2, 1]), (115, .aload_n 0, []), (116, .getfield 42, [11, 5, 494, 2, 1]), (119, .invokespecial 64, [23, 2, 426, 0]), (122, .putfield 65, [11, 8, 497, 2, 1]), (125, .aload_n 0, []), (126, .new 69, [8, 445, 446, 139]), (129, .dup, []), (130, .aload_n 0, []), (131, .getfield 12, [11, 0, 489, 2, 1]), (134, .invokespecial 71, [110, 1, 447, 0]), (137, .putfield 72, [11, 9, 498, 2, 1]), (140, .aload_n 0, []), (141, .new 76, [9, 455, 456, 140]), (144, .dup, []), (145, .aload_n 0, []), (146, .getfield 12, [11, 0, 489, 2, 1]), (149, .aload_n 0, []), (150, .getfield 58, [11, 7, 496, 2, 1]), (153, .invokespecial 78, [120, 2, 457, 0]), (156, .putfield 81, [11, 10, 499, 2, 1]), (159, .return_, [])]
/-- IsHeIn.<init> -/
def me139 : mM := (2, ⟨"IsHeIn", "<init>", "()V"⟩, prog_1_method_1_code, 1, none, 11, [151, 128, 150, 0], mc139)
def mc140 : List mI := [(0, .aload_n 0, []), (1, .getfield 12, [11, 0, 489, 2, 1]), (4, .getfield 85, [2, 11, 237, 0, 0]), (7, .istore_n 2, []), (8, .aload_n 0, []), (9, .getfield 12, [11, 0, 489, 2, 1]), (12, .iload_n 1, []), (13, .putfield 85, [2, 11, 237, 0, 0]), (16, .aload_n 0, []), (17, .getfield 26, [11, 3, 492, 2, 1]), (20, .invokevirtual 89, [64, 0, 527, 0]), (23, .iload_n 2, []), (24, .ireturn, [])]
/-- IsHeIn.state -/
def me140 : mM := (1, ⟨"IsHeIn", "state", "(I)I"⟩, prog_1_method_2_code, 3, (some .int), 11, [526, 128, 524, 525], mc140)
def mc141 : List mI := [(0, .iload_n 1, []), (1, .iconst 0, []), (2, .iconst 3, []), (3, .invokestatic 92, [188, 3, 535, 0]), (6, .ifCond .eq 26, []), (9, .iload_n 2, []), (10, .iconst 0, []), (11, .bipush 99, []), (13, .invokestatic 92, [188, 3, 535, 0]), (16, .ifCond .eq 16, []), (19, .aload_n 0, []), (20, .getfield 12, [11, 0, 489, 2, 1]), (23, .getfield 96, [2, 0, 200, 2, 1]), (26, .invokevirtual 100, [132, 0, 538, 0]), (29, .ifCond .eq 5, []), (32, .iconst (-1), []), (33, .ireturn, []), (34, .aload_n 0, []), (35, .getfield 26, [11, 3, 492, 2, 1]), (38, .invokevirtual 89, [64, 0, 527, 0]), (41, .aload_n 0, []), (42, .getfield 12, [11, 0, 489, 2, 1]), (45, .iload_n 1, []), (46, .iload_n 2, []), (47, .invokevirtual 106, [39, 2, 542, 0]), (50, .ireturn, [])]
/-- IsHeIn.guest -/
def me141 : mM := (1, ⟨"IsHeIn", "guest", "(II)I"⟩, prog_1_method_3_code, 3, (some .int), 11, [534, 128, 532, 533], mc141)
def mc142 : List mI := [(0, .aload_n 0, []), (1, .iload_n 1, []), (2, .iload_n 2, []), (3, .iload_n 3, []), (4, .invokevirtual 110, [143, 3, 563, 0]), (7, .ifCond .ne 5, []), (10, .iconst 0, []), (11, .ireturn, []), (12, .iload_n 1, []), (13, .ifCond .ne 14, []), (16, .aload_n 0, []), (17, .getfield 12, [11, 0, 489, 2, 1]), (20, .iload_n 3, []), (21, .putfield 113, [2, 8, 226, 0, 0]), (24, .goto 32, []), (27, .iload_n 1, []), (28, .iconst 1, []), (29, .if_icmp .ne 14, []), (32, .aload_n 0, []), (33, .getfield 12, [11, 0, 489, 2, 1]), (36, .iload_n 3, []), (37, .putfield 116, [2, 9, 229, 0, 0]), (40, .goto 16, []), (43, .aload_n 0, []), (44, .getfield 12, [11, 0, 489, 2, 1]), (47, .getfield 96, [2, 0, 200, 2, 1]), (50, .iload_n 2, []), (51, .iconst 1, []), (52, .iload_n 3, []), (53, .invokevirtual 119, [134, 3, 575, 0]), (56, .aload_n 0, []), (57, .getfield 26, [11, 3, 492, 2, 1]), (60, .invokevirtual 89, [64, 0, 527, 0]), (63, .iconst 1, []), (64, .ireturn, [])]
/-- IsHeIn.set -/
def me142 : mM := (1, ⟨"IsHeIn", "set", "(III)Z"⟩, prog_1_method_4_code, 4, (some .boolean), 11, [562, 128, 560, 561], mc142)
def mc143 : List mI := [(0, .iload_n 1, []), (1, .tableswitch 70 0 2 #[27, 35, 43], [27]), (28, .iload_n 3, []), (29, .iconst 0, []), (30, .bipush 20, []), (32, .invokestatic 92, [188, 3, 535, 0]), (35, .ireturn, []), (36, .iload_n 3, []), (37, .iconst 0, []), (38, .bipush 9, []), (40, .invokestatic 92, [188, 3, 535, 0]), (43, .ireturn, []), (44, .aload_n 0, []), (45, .getfield 12, [11, 0, 489, 2, 1]), (48, .iload_n 2, []), (49, .invokevirtual 123, [42, 1, 567, 0]), (52, .ifCond .eq 17, []), (55, .iload_n 3, []), (56, .iconst 0, []), (57, .bipush 99, []), (59, .invokestatic 92, [188, 3, 535, 0]), (62, .ifCond .eq 7, []), (65, .iconst 1, []), (66, .goto 4, []), (69, .iconst 0, []), (70, .ireturn, []), (71, .iconst 0, []), (72, .ireturn, [])]
/-- IsHeIn.canSet -/
def me143 : mM := (1, ⟨"IsHeIn", "canSet", "(III)Z"⟩, prog_1_method_5_code, 4, (some .boolean), 11, [566, 128, 565, 0], mc143)
def mc144 : List mI := [(0, .aload_n 0, []), (1, .getfield 12, [11, 0, 489, 2, 1]), (4, .iload_n 1, []), (5, .invokevirtual 123, [42, 1, 567, 0]), (8, .ifCond .eq 36, []), (11, .aload_n 0, []), (12, .getfield 12, [11, 0, 489, 2, 1]), (15, .iload_n 2, []), (16, .invokevirtual 123, [42, 1, 567, 0]), (19, .ifCond .eq 25, []), (22, .aload_n 0, []), (23, .getfield 12, [11, 0, 489, 2, 1]), (26, .iload_n 1, []), (27, .invokevirtual 127, [44, 1, 580, 0]), (30, .ifCond .eq 14, []), (33, .aload_n 0, []), (34, .getfield 12, [11, 0, 489, 2, 1]), (37, .iload_n 2, []), (38, .invokevirtual 130, [46, 1, 588, 0]), (41, .ifCond .eq 5, []), (44, .iconst 0, []), (45, .ireturn, []), (46, .aload_n 0, []), (47, .getfield 26, [11, 3, 492, 2, 1]), (50, .aload_n 0, []), (51, .getfield 12, [11, 0, 489, 2, 1]), (54, .invokevirtual 133, [65, 1, 596, 0]), (57, .aload_n 0, []), (58, .getfield 12, [11, 0, 489, 2, 1]), (61, .getfield 96, [2, 0, 200, 2, 1]), (64, .iload_n 1, []), (65, .iconst 3, []), (66, .iload_n 2, []), (67, .invokevirtual 119, [134, 3, 575, 0]), (70, .aload_n 0, []), (71, .getfield 12, [11, 0, 489, 2, 1]), (74, .iconst 2, []), (75, .iload_n 1, []), (76, .iload_n 2, []), (77, .iconst (-1), []), (78, .invokevirtual 136, [51, 4, 616, 0]), (81, .iconst 1, []), (82, .ireturn, [])]
/-- IsHeIn.hang -/
def me144 : mM := (1, ⟨"IsHeIn", "hang", "(II)Z"⟩, prog_1_method_6_code, 3, (some .boolean), 11, [579, 128, 577, 578], mc144)
def mc145 : List mI := [(0, .aload_n 0, []), (1, .getfield 12, [11, 0, 489, 2, 1]), (4, .iload_n 1, []), (5, .invokevirtual 123, [42, 1, 567, 0]), (8, .ifCond .eq 23, []), (11, .aload_n 0, []), (12, .getfield 12, [11, 0, 489, 2, 1]), (15, .iload_n 2, []), (16, .invokevirtual 140, [43, 1, 625, 0]), (19, .ifCond .eq 12, []), (22, .iload_n 3, []), (23, .iconst (-1), []), (24, .iconst 1, []), (25, .invokestatic 92, [188, 3, 535, 0]), (28, .ifCond .ne 5, []), (31, .iconst 0, []), (32, .ireturn, []), (33, .aload_n 0, []), (34, .getfield 12, [11, 0, 489, 2, 1]), (37, .getfield 96, [2, 0, 200, 2, 1]), (40, .iload_n 1, []), (41, .iconst 5, []), (42, .iload_n 2, []), (43, .iadd, []), (44, .invokevirtual 143, [133, 2, 629, 0]), (47, .iload_n 3, []), (48, .if_icmp .ne 5, []), (51, .iconst 0, []), (52, .ireturn, []), (53, .aload_n 0, []), (54, .getfield 26, [11, 3, 492, 2, 1]), (57, .aload_n 0, []), (58, .getfield 12, [11, 0, 489, 2, 1]), (61, .invokevirtual 133, [65, 1, 596, 0]), (64, .aload_n 0, []), (65, .getfield 12, [11, 0, 489, 2, 1]), (68, .getfield 96, [2, 0, 200, 2, 1]), (71, .iload_n 1, []), (72, .iconst 5, []), (73, .iload_n 2, []), (74, .iadd, []), (75, .iload_n 3, []), (76, .invokevirtual 119, [134, 3, 575, 0]), (79, .iconst 1, []), (80, .ireturn, [])]
/-- IsHeIn.looks -/
def me145 : mM := (1, ⟨"IsHeIn", "looks", "(III)Z"⟩, prog_1_method_7_code, 4, (some .boolean), 11, [624, 128, 622, 623], mc145)
def mc146 : List mI := [(0, .iload_n 1, []), (1, .iconst 1, []), (2, .bipush 60, []), (4, .invokestatic 92, [188, 3, 535, 0]), (7, .ifCond .eq 18, []), (10, .aload_n 0, []), (11, .getfield 12, [11, 0, 489, 2, 1]), (14, .getfield 146, [2, 10, 235, 0, 0]), (17, .iload_n 1, []), (18, .iadd, []), (19, .sipush 9999, []), (22, .if_icmp .le 5, []), (25, .iconst (-1), []), (26, .ireturn, []), (27, .iconst 0, []), (28, .istore_n 2, []), (29, .iconst 0, []), (30, .istore_n 3, []), (31, .iload_n 3, []), (32, .iload_n 1, []), (33, .if_icmp .ge 30, []), (36, .aload_n 0, []), (37, .getfield 26, [11, 3, 492, 2, 1]), (40, .aload_n 0, []), (41, .getfield 12, [11, 0, 489, 2, 1]), (44, .invokevirtual 133, [65, 1, 596, 0]), (47, .iload_n 2, []), (48, .aload_n 0, []), (49, .getfield 51, [11, 6, 495, 2, 1]), (52, .invokevirtual 149, [69, 0, 634, 0]), (55, .iadd, []), (56, .istore_n 2, []), (57, .iinc 3 1, []), (60, .goto (-29), []), (63, .iload_n 2, []), (64, .ireturn, [])]
/-- IsHeIn.hours -/
def me146 : mM := (1, ⟨"IsHeIn", "hours", "(I)I"⟩, prog_1_method_8_code, 4, (some .int), 11, [633, 128, 631, 632], mc146)
def mc147 : List mI := [(0, .aload_n 0, []), (1, .getfield 33, [11, 4, 493, 2, 1]), (4, .bipush 20, []), (6, .invokevirtual 153, [76, 1, 709, 0]), (9, .ifCond .ne 5, []), (12, .iconst (-1), []), (13, .ireturn, []), (14, .aload_n 0, []), (15, .getfield 33, [11, 4, 493, 2, 1]), (18, .iload_n 1, []), (19, .invokevirtual 156, [77, 1, 713, 0]), (22, .aload_n 0, []), (23, .getfield 33, [11, 4, 493, 2, 1]), (26, .iload_n 2, []), (27, .invokevirtual 156, [77, 1, 713, 0]), (30, .aload_n 0, []), (31, .getfield 33, [11, 4, 493, 2, 1]), (34, .iload_n 3, []), (35, .invokevirtual 156, [77, 1, 713, 0]), (38, .aload_n 0, []), (39, .getfield 33, [11, 4, 493, 2, 1]), (42, .iload 4, []), (44, .invokevirtual 156, [77, 1, 713, 0]), (47, .aload_n 0, []), (48, .getfield 33, [11, 4, 493, 2, 1]), (51, .iload 5, []), (53, .invokevirtual 156, [77, 1, 713, 0]), (56, .aload_n 0, []), (57, .getfield 33, [11, 4, 493, 2, 1]), (60, .getfield 160, [7, 9, 325, 0, 0]), (63, .ireturn, [])]
/-- IsHeIn.feed -/
def me147 : mM := (1, ⟨"IsHeIn", "feed", "(IIIII)I"⟩, prog_1_method_9_code, 6, (some .int), 11, [708, 128, 706, 707], mc147)
def mc148 : List mI := [(0, .iload_n 1, []), (1, .iconst 0, []), (2, .aload_n 0, []), (3, .getfield 33, [11, 4, 493, 2, 1]), (6, .getfield 160, [7, 9, 325, 0, 0]), (9, .invokestatic 92, [188, 3, 535, 0]), (12, .ifCond .ne 5, []), (15, .iconst 0, []), (16, .ireturn, []), (17, .aload_n 0, []), (18, .getfield 33, [11, 4, 493, 2, 1]), (21, .iload_n 1, []), (22, .putfield 160, [7, 9, 325, 0, 0]), (25, .iconst 1, []), (26, .ireturn, [])]
/-- IsHeIn.end -/
def me148 : mM := (1, ⟨"IsHeIn", "end", "(I)Z"⟩, prog_1_method_10_code, 2, (some .boolean), 11, [721, 128, 719, 720], mc148)
def mc149 : List mI := [(0, .aload_n 0, []), (1, .getfield 33, [11, 4, 493, 2, 1]), (4, .iload_n 1, []), (5, .invokevirtual 163, [78, 1, 726, 0]), (8, .istore_n 2, []), (9, .aload_n 0, []), (10, .getfield 33, [11, 4, 493, 2, 1]), (13, .iconst 0, []), (14, .putfield 160, [7, 9, 325, 0, 0]), (17, .iload_n 2, []), (18, .ifCond .ne 5, []), (21, .iconst (-1), []), (22, .ireturn, []), (23, .iload_n 1, []), (24, .ifCond .ne 48, []), (27, .aload_n 0, []), (28, .getfield 12, [11, 0, 489, 2, 1]), (31, .getfield 166, [2, 2, 209, 2, 1]), (34, .aload_n 0, []), (35, .getfield 33, [11, 4, 493, 2, 1]), (38, .getfield 169, [7, 0, 312, 2, 1]), (41, .invokevirtual 170, [138, 1, 917, 0]), (44, .aload_n 0, []), (45, .getfield 12, [11, 0, 489, 2, 1]), (48, .getfield 174, [2, 3, 212, 2, 1]), (51, .aload_n 0, []), (52, .getfield 33, [11, 4, 493, 2, 1]), (55, .getfield 177, [7, 1, 314, 2, 1]), (58, .invokevirtual 170, [138, 1, 917, 0]), (61, .aload_n 0, []), (62, .getfield 12, [11, 0, 489, 2, 1]), (65, .getfield 166, [2, 2, 209, 2, 1]), (68, .getfield 178, [10, 3, 183, 0, 0]), (71, .ireturn, []), (72, .aload_n 0, []), (73, .getfield 26, [11, 3, 492, 2, 1]), (76, .invokevirtual 89, [64, 0, 527, 0]), (79, .iload_n 1, []), (80, .iconst 1, []), (81, .if_icmp .ne 38, []), (84, .aload_n 0, []), (85, .getfield 12, [11, 0, 489, 2, 1]), (88, .getfield 181, [2, 4, 215, 2, 1]), (91, .aload_n 0, []), (92, .getfield 33, [11, 4, 493, 2, 1]), (95, .getfield 184, [7, 2, 316, 2, 1]), (98, .invokevirtual 170, [138, 1, 917, 0]), (101, .aload_n 0, []), (102, .getfield 12, [11, 0, 489, 2, 1]), (105, .invokevirtual 185, [40, 0, 918, 0]), (108, .aload_n 0, []), (109, .getfield 12, [11, 0, 489, 2, 1]), (112, .getfield 181, [2, 4, 215, 2, 1]), (115, .getfield 178, [10, 3, 183, 0, 0]), (118, .ireturn, []), (119, .aload_n 0, []), (120, .getfield 12, [11, 0, 489, 2, 1]), (123, .getfield 188, [2, 5, 217, 2, 1]), (126, .aload_n 0, []), (127, .getfield 33, [11, 4, 493, 2, 1]), (130, .getfield 191, [7, 3, 318, 2, 1]), (133, .invokevirtual 170, [138, 1, 917, 0]), (136, .aload_n 0, []), (137, .getfield 12, [11, 0, 489, 2, 1]), (140, .getfield 188, [2, 5, 217, 2, 1]), (143, .getfield 178, [10, 3, 183, 0, 0]), (146, .ireturn, [])]
/-- IsHeIn.text -/
def me149 : mM := (1, ⟨"IsHeIn", "text", "(I)I"⟩, prog_1_method_11_code, 3, (some .int), 11, [725, 128, 723, 724], mc149)
def mc150 : List mI := [(0, .iload_n 1, []), (1, .ifCond .ne 11, []), (4, .aload_n 0, []), (5, .getfield 33, [11, 4, 493, 2, 1]), (8, .getfield 192, [7, 10, 327, 0, 0]), (11, .ireturn, []), (12, .iload_n 1, []), (13, .iconst 1, []), (14, .if_icmp .ne 13, []), (17, .aload_n 0, []), (18, .getfield 33, [11, 4, 493, 2, 1]), (21, .getfield 195, [7, 11, 329, 0, 0]), (24, .goto 4, []), (27, .iconst (-1), []), (28, .ireturn, [])]
/-- IsHeIn.fault -/
def me150 : mM := (1, ⟨"IsHeIn", "fault", "(I)I"⟩, prog_1_method_12_code, 2, (some .int), 11, [926, 128, 924, 925], mc150)
def mc151 : List mI := [(0, .iload_n 1, []), (1, .iconst (-1), []), (2, .if_icmp .ne 15, []), (5, .aload_n 0, []), (6, .getfield 12, [11, 0, 489, 2, 1]), (9, .getfield 198, [2, 7, 223, 2, 1]), (12, .invokevirtual 201, [137, 0, 931, 0]), (15, .iconst 0, []), (16, .ireturn, []), (17, .aload_n 0, []), (18, .getfield 12, [11, 0, 489, 2, 1]), (21, .iload_n 1, []), (22, .invokevirtual 123, [42, 1, 567, 0]), (25, .ifCond .eq 38, []), (28, .iload_n 2, []), (29, .iconst 0, []), (30, .sipush 999, []), (33, .invokestatic 92, [188, 3, 535, 0]), (36, .ifCond .eq 27, []), (39, .iload_n 3, []), (40, .iconst 0, []), (41, .sipush 999, []), (44, .invokestatic 92, [188, 3, 535, 0]), (47, .ifCond .eq 16, []), (50, .aload_n 0, []), (51, .getfield 12, [11, 0, 489, 2, 1]), (54, .getfield 198, [2, 7, 223, 2, 1]), (57, .invokevirtual 100, [132, 0, 538, 0]), (60, .ifCond .eq 5, []), (63, .iconst (-1), []), (64, .ireturn, []), (65, .aload_n 0, []), (66, .getfield 12, [11, 0, 489, 2, 1]), (69, .getfield 198, [2, 7, 223, 2, 1]), (72, .invokevirtual 204, [136, 0, 932, 0]), (75, .istore 4, []), (77, .aload_n 0, []), (78, .getfield 12, [11, 0, 489, 2, 1]), (81, .getfield 198, [2, 7, 223, 2, 1]), (84, .iload 4, []), (86, .iconst 0, []), (87, .iload_n 1, []), (88, .invokevirtual 119, [134, 3, 575, 0]), (91, .aload_n 0, []), (92, .getfield 12, [11, 0, 489, 2, 1]), (95, .getfield 198, [2, 7, 223, 2, 1]), (98, .iload 4, []), (100, .iconst 1, []), (101, .iload_n 2, []), (102, .invokevirtual 119, [134, 3, 575, 0]), (105, .aload_n 0, []), (106, .getfield 12, [11, 0, 489, 2, 1]), (109, .getfield 198, [2, 7, 223, 2, 1]), (112, .iload 4, []), (114, .iconst 2, []), (115, .iload_n 3, []), (116, .invokevirtual 119, [134, 3, 575, 0]), (119, .aload_n 0, []), (120, .getfield 12, [11, 0, 489, 2, 1]), (123, .getfield 198, [2, 7, 223, 2, 1]), (126, .getfield 178, [10, 3, 183, 0, 0]), (129, .ireturn, [])]
/-- IsHeIn.caller -/
def me151 : mM := (1, ⟨"IsHeIn", "caller", "(III)I"⟩, prog_1_method_13_code, 5, (some .int), 11, [930, 128, 928, 929], mc151)
def mc152 : List mI := [(0, .iload_n 1, []), (1, .iconst (-1), []), (2, .if_icmp .ne 15, []), (5, .aload_n 0, []), (6, .getfield 12, [11, 0, 489, 2, 1]), (9, .getfield 207, [2, 6, 220, 2, 1]), (12, .invokevirtual 201, [137, 0, 931, 0]), (15, .iconst 0, []), (16, .ireturn, []), (17, .aload_n 0, []), (18, .getfield 12, [11, 0, 489, 2, 1]), (21, .iload_n 1, []), (22, .invokevirtual 123, [42, 1, 567, 0]), (25, .ifCond .eq 48, []), (28, .iload_n 2, []), (29, .iconst 1, []), (30, .bipush 99, []), (32, .invokestatic 92, [188, 3, 535, 0]), (35, .ifCond .eq 38, []), (38, .iload_n 3, []), (39, .iconst 1, []), (40, .sipush 999, []), (43, .invokestatic 92, [188, 3, 535, 0]), (46, .ifCond .eq 27, []), (49, .iload 4, []), (51, .iconst 0, []), (52, .bipush 99, []), (54, .invokestatic 92, [188, 3, 535, 0]), (57, .ifCond .eq 16, []), (60, .aload_n 0, []), (61, .getfield 12, [11, 0, 489, 2, 1]), (64, .getfield 207, [2, 6, 220, 2, 1]), (67, .invokevirtual 100, [132, 0, 538, 0]), (70, .ifCond .eq 5, []), (73, .iconst (-1), []), (74, .ireturn, []), (75, .aload_n 0, []), (76, .getfield 12, [11, 0, 489, 2, 1]), (79, .getfield 207, [2, 6, 220, 2, 1]), (82, .invokevirtual 204, [136, 0, 932, 0]), (85, .istore 5, []), (87, .aload_n 0, []), (88, .getfield 12, [11, 0, 489, 2, 1]), (91, .getfield 207, [2, 6, 220, 2, 1]), (94, .iload 5, []), (96, .iconst 0, []), (97, .iload_n 1, []), (98, .invokevirtual 119, [134, 3, 575, 0]), (101, .aload_n 0, []), (102, .getfield 12, [11, 0, 489, 2, 1]), (105, .getfield 207, [2, 6, 220, 2, 1]), (108, .iload 5, []), (110, .iconst 1, []), (111, .iload_n 2, []), (112, .invokevirtual 119, [134, 3, 575, 0]), (115, .aload_n 0, []), (116, .getfield 12, [11, 0, 489, 2, 1]), (119, .getfield 207, [2, 6, 220, 2, 1]), (122, .iload 5, []), (124, .iconst 2, []), (125, .iload_n 3, []), (126, .invokevirtual 119, [134, 3, 575, 0]), (129, .aload_n 0, []), (130, .getfield 12, [11, 0, 489, 2, 1]), (133, .getfield 207, [2, 6, 220, 2, 1]), (136, .iload 5, []), (138, .iconst 3, []), (139, .iload 4, []), (141, .invokevirtual 119, [134, 3, 575, 0]), (144, .aload_n 0, []), (145, .getfield 12, [11, 0, 489, 2, 1]), (148, .getfield 207, [2, 6, 220, 2, 1]), (151, .getfield 178, [10, 3, 183, 0, 0]), (154, .ireturn, [])]
/-- IsHeIn.room -/
def me152 : mM := (1, ⟨"IsHeIn", "room", "(IIII)I"⟩, prog_1_method_14_code, 6, (some .int), 11, [936, 128, 934, 935], mc152)
def mc153 : List mI := [(0, .aload_n 0, []), (1, .getfield 26, [11, 3, 492, 2, 1]), (4, .aload_n 0, []), (5, .getfield 12, [11, 0, 489, 2, 1]), (8, .invokevirtual 210, [66, 1, 941, 0]), (11, .ireturn, [])]
/-- IsHeIn.undo -/
def me153 : mM := (1, ⟨"IsHeIn", "undo", "()Z"⟩, prog_1_method_15_code, 1, (some .boolean), 11, [940, 128, 938, 939], mc153)
def mc154 : List mI := [(0, .iload_n 1, []), (1, .ifCond .eq 21, []), (4, .aload_n 0, []), (5, .getfield 16, [11, 1, 490, 2, 1]), (8, .aload_n 0, []), (9, .getfield 12, [11, 0, 489, 2, 1]), (12, .invokevirtual 214, [38, 1, 954, 0]), (15, .aload_n 0, []), (16, .iconst 1, []), (17, .putfield 19, [11, 2, 491, 3, 0]), (20, .iconst 1, []), (21, .ireturn, []), (22, .aload_n 0, []), (23, .getfield 19, [11, 2, 491, 3, 0]), (26, .ifCond .ne 5, []), (29, .iconst 0, []), (30, .ireturn, []), (31, .aload_n 0, []), (32, .getfield 12, [11, 0, 489, 2, 1]), (35, .aload_n 0, []), (36, .getfield 16, [11, 1, 490, 2, 1]), (39, .invokevirtual 214, [38, 1, 954, 0]), (42, .aload_n 0, []), (43, .getfield 26, [11, 3, 492, 2, 1]), (46, .invokevirtual 89, [64, 0, 527, 0]), (49, .iconst 1, []), (50, .ireturn, [])]
/-- IsHeIn.image -/
def me154 : mM := (1, ⟨"IsHeIn", "image", "(Z)Z"⟩, prog_1_method_16_code, 2, (some .boolean), 11, [953, 128, 951, 952], mc154)
def mc155 : List mI := [(0, .aload_n 0, []), (1, .getfield 12, [11, 0, 489, 2, 1]), (4, .iload_n 1, []), (5, .invokevirtual 123, [42, 1, 567, 0]), (8, .ifCond .ne 6, []), (11, .bipush (-2), []), (13, .ireturn, []), (14, .iload_n 2, []), (15, .iconst 0, []), (16, .iconst 4, []), (17, .invokestatic 92, [188, 3, 535, 0]), (20, .ifCond .eq 16, []), (23, .aload_n 0, []), (24, .getfield 12, [11, 0, 489, 2, 1]), (27, .getfield 96, [2, 0, 200, 2, 1]), (30, .iload_n 1, []), (31, .iload_n 2, []), (32, .invokevirtual 143, [133, 2, 629, 0]), (35, .ireturn, []), (36, .iload_n 2, []), (37, .iconst 5, []), (38, .if_icmp .ne 12, []), (41, .aload_n 0, []), (42, .getfield 58, [11, 7, 496, 2, 1]), (45, .iload_n 1, []), (46, .invokevirtual 216, [1, 1, 963, 0]), (49, .ireturn, []), (50, .iload_n 2, []), (51, .bipush 6, []), (53, .bipush 11, []), (55, .invokestatic 92, [188, 3, 535, 0]), (58, .ifCond .ne 6, []), (61, .bipush (-2), []), (63, .ireturn, []), (64, .aload_n 0, []), (65, .getfield 42, [11, 5, 494, 2, 1]), (68, .iload_n 1, []), (69, .invokevirtual 220, [54, 1, 986, 0]), (72, .aload_n 0, []), (73, .getfield 42, [11, 5, 494, 2, 1]), (76, .iload_n 2, []), (77, .bipush 6, []), (79, .isub, []), (80, .invokevirtual 223, [57, 1, 987, 0]), (83, .ireturn, [])]
/-- IsHeIn.of -/
def me155 : mM := (1, ⟨"IsHeIn", "of", "(II)I"⟩, prog_1_method_17_code, 3, (some .int), 11, [962, 128, 960, 961], mc155)
def mc156 : List mI := [(0, .aload_n 0, []), (1, .getfield 12, [11, 0, 489, 2, 1]), (4, .iload_n 1, []), (5, .invokevirtual 123, [42, 1, 567, 0]), (8, .ifCond .eq 14, []), (11, .aload_n 0, []), (12, .getfield 12, [11, 0, 489, 2, 1]), (15, .iload_n 1, []), (16, .invokevirtual 226, [45, 1, 992, 0]), (19, .goto 5, []), (22, .bipush (-2), []), (24, .ireturn, [])]
/-- IsHeIn.hook -/
def me156 : mM := (1, ⟨"IsHeIn", "hook", "(I)I"⟩, prog_1_method_18_code, 2, (some .int), 11, [991, 128, 989, 990], mc156)
def mc157 : List mI := [(0, .aload_n 0, []), (1, .getfield 12, [11, 0, 489, 2, 1]), (4, .iload_n 1, []), (5, .invokevirtual 140, [43, 1, 625, 0]), (8, .ifCond .ne 6, []), (11, .bipush (-2), []), (13, .ireturn, []), (14, .iload_n 2, []), (15, .iconst 0, []), (16, .iconst 1, []), (17, .invokestatic 92, [188, 3, 535, 0]), (20, .ifCond .eq 16, []), (23, .aload_n 0, []), (24, .getfield 12, [11, 0, 489, 2, 1]), (27, .getfield 181, [2, 4, 215, 2, 1]), (30, .iload_n 1, []), (31, .iload_n 2, []), (32, .invokevirtual 143, [133, 2, 629, 0]), (35, .ireturn, []), (36, .iload_n 2, []), (37, .iconst 2, []), (38, .if_icmp .lt 35, []), (41, .aload_n 0, []), (42, .getfield 12, [11, 0, 489, 2, 1]), (45, .iload_n 2, []), (46, .iconst 2, []), (47, .isub, []), (48, .invokevirtual 123, [42, 1, 567, 0]), (51, .ifCond .eq 22, []), (54, .aload_n 0, []), (55, .getfield 12, [11, 0, 489, 2, 1]), (58, .getfield 96, [2, 0, 200, 2, 1]), (61, .iload_n 2, []), (62, .iconst 2, []), (63, .isub, []), (64, .iconst 5, []), (65, .iload_n 1, []), (66, .iadd, []), (67, .invokevirtual 143, [133, 2, 629, 0]), (70, .goto 5, []), (73, .bipush (-2), []), (75, .ireturn, [])]
/-- IsHeIn.sign -/
def me157 : mM := (1, ⟨"IsHeIn", "sign", "(II)I"⟩, prog_1_method_19_code, 3, (some .int), 11, [996, 128, 994, 995], mc157)
def mc158 : List mI := [(0, .aload_n 0, []), (1, .getfield 12, [11, 0, 489, 2, 1]), (4, .getfield 229, [2, 1, 206, 2, 1]), (7, .iload_n 1, []), (8, .invokevirtual 232, [131, 1, 1001, 0]), (11, .ifCond .eq 12, []), (14, .iload_n 2, []), (15, .iconst 0, []), (16, .iconst 4, []), (17, .invokestatic 92, [188, 3, 535, 0]), (20, .ifCond .ne 6, []), (23, .bipush (-2), []), (25, .ireturn, []), (26, .aload_n 0, []), (27, .getfield 12, [11, 0, 489, 2, 1]), (30, .getfield 229, [2, 1, 206, 2, 1]), (33, .iload_n 1, []), (34, .iload_n 2, []), (35, .invokevirtual 143, [133, 2, 629, 0]), (38, .ireturn, [])]
/-- IsHeIn.book -/
def me158 : mM := (1, ⟨"IsHeIn", "book", "(II)I"⟩, prog_1_method_20_code, 3, (some .int), 11, [1000, 128, 998, 999], mc158)
def mc159 : List mI := [(0, .aload_n 0, []), (1, .getfield 12, [11, 0, 489, 2, 1]), (4, .iload_n 1, []), (5, .invokevirtual 123, [42, 1, 567, 0]), (8, .ifCond .eq 12, []), (11, .iload_n 2, []), (12, .iconst 0, []), (13, .iconst 1, []), (14, .invokestatic 92, [188, 3, 535, 0]), (17, .ifCond .ne 5, []), (20, .iconst (-1), []), (21, .ireturn, []), (22, .aload_n 0, []), (23, .getfield 72, [11, 9, 498, 2, 1]), (26, .iload_n 1, []), (27, .iload_n 2, []), (28, .ifCond .ne 7, []), (31, .iconst 1, []), (32, .goto 4, []), (35, .iconst 0, []), (36, .invokevirtual 235, [116, 2, 1006, 0]), (39, .ireturn, [])]
/-- IsHeIn.saw -/
def me159 : mM := (1, ⟨"IsHeIn", "saw", "(II)I"⟩, prog_1_method_21_code, 3, (some .int), 11, [1005, 128, 1003, 1004], mc159)
def mc160 : List mI := [(0, .iload_n 1, []), (1, .iconst 0, []), (2, .iconst 1, []), (3, .invokestatic 92, [188, 3, 535, 0]), (6, .ifCond .eq 12, []), (9, .iload_n 2, []), (10, .iconst 0, []), (11, .iconst 1, []), (12, .invokestatic 92, [188, 3, 535, 0]), (15, .ifCond .ne 5, []), (18, .iconst (-1), []), (19, .ireturn, []), (20, .aload_n 0, []), (21, .getfield 72, [11, 9, 498, 2, 1]), (24, .iload_n 1, []), (25, .iload_n 2, []), (26, .invokevirtual 239, [117, 2, 1015, 0]), (29, .ireturn, [])]
/-- IsHeIn.by -/
def me160 : mM := (1, ⟨"IsHeIn", "by", "(II)I"⟩, prog_1_method_22_code, 3, (some .int), 11, [1014, 128, 1012, 1013], mc160)
def mc161 : List mI := [(0, .iload_n 1, []), (1, .iconst 0, []), (2, .iconst 3, []), (3, .invokestatic 92, [188, 3, 535, 0]), (6, .ifCond .eq 14, []), (9, .aload_n 0, []), (10, .getfield 72, [11, 9, 498, 2, 1]), (13, .iload_n 1, []), (14, .invokevirtual 242, [118, 1, 1023, 0]), (17, .goto 4, []), (20, .iconst (-1), []), (21, .ireturn, [])]
/-- IsHeIn.tellsOn -/
def me161 : mM := (1, ⟨"IsHeIn", "tellsOn", "(I)I"⟩, prog_1_method_23_code, 2, (some .int), 11, [1022, 128, 1020, 1021], mc161)
def mc162 : List mI := [(0, .aload_n 0, []), (1, .getfield 12, [11, 0, 489, 2, 1]), (4, .iload_n 1, []), (5, .invokevirtual 123, [42, 1, 567, 0]), (8, .ifCond .eq 17, []), (11, .aload_n 0, []), (12, .getfield 72, [11, 9, 498, 2, 1]), (15, .iload_n 1, []), (16, .invokevirtual 245, [113, 1, 1036, 0]), (19, .invokestatic 248, [320, 1, 1044, 0]), (22, .goto 4, []), (25, .iconst (-1), []), (26, .ireturn, [])]
/-- IsHeIn.ring -/
def me162 : mM := (1, ⟨"IsHeIn", "ring", "(I)I"⟩, prog_1_method_24_code, 2, (some .int), 11, [1035, 128, 1033, 1034], mc162)
def mc163 : List mI := [(0, .iload_n 1, []), (1, .tableswitch 62 0 2 #[27, 35, 54], [27]), (28, .aload_n 0, []), (29, .getfield 72, [11, 9, 498, 2, 1]), (32, .invokevirtual 253, [112, 0, 1054, 0]), (35, .ireturn, []), (36, .aload_n 0, []), (37, .getfield 72, [11, 9, 498, 2, 1]), (40, .invokevirtual 253, [112, 0, 1054, 0]), (43, .invokestatic 248, [320, 1, 1044, 0]), (46, .aload_n 0, []), (47, .getfield 72, [11, 9, 498, 2, 1]), (50, .invokevirtual 256, [114, 0, 1058, 0]), (53, .iadd, []), (54, .ireturn, []), (55, .aload_n 0, []), (56, .getfield 72, [11, 9, 498, 2, 1]), (59, .invokevirtual 256, [114, 0, 1058, 0]), (62, .ireturn, []), (63, .iconst (-1), []), (64, .ireturn, [])]
/-- IsHeIn.swapped -/
def me163 : mM := (1, ⟨"IsHeIn", "swapped", "(I)I"⟩, prog_1_method_25_code, 2, (some .int), 11, [1053, 128, 1051, 1052], mc163)
def mc164 : List mI := [(0, .aload_n 0, []), (1, .getfield 72, [11, 9, 498, 2, 1]), (4, .invokevirtual 259, [115, 0, 1067, 0]), (7, .ireturn, [])]
/-- IsHeIn.thief -/
def me164 : mM := (1, ⟨"IsHeIn", "thief", "()I"⟩, prog_1_method_26_code, 1, (some .int), 11, [1066, 128, 1064, 1065], mc164)
def mc165 : List mI := [(0, .iload_n 1, []), (1, .tableswitch 117 0 7 #[47, 58, 66, 74, 82, 90, 98, 109], [47]), (48, .aload_n 0, []), (49, .getfield 12, [11, 0, 489, 2, 1]), (52, .getfield 96, [2, 0, 200, 2, 1]), (55, .getfield 178, [10, 3, 183, 0, 0]), (58, .ireturn, []), (59, .aload_n 0, []), (60, .getfield 12, [11, 0, 489, 2, 1]), (63, .getfield 146, [2, 10, 235, 0, 0]), (66, .ireturn, []), (67, .aload_n 0, []), (68, .getfield 12, [11, 0, 489, 2, 1]), (71, .invokevirtual 262, [47, 0, 1075, 0]), (74, .ireturn, []), (75, .aload_n 0, []), (76, .getfield 12, [11, 0, 489, 2, 1]), (79, .invokevirtual 265, [48, 0, 1080, 0]), (82, .ireturn, []), (83, .aload_n 0, []), (84, .getfield 12, [11, 0, 489, 2, 1]), (87, .getfield 113, [2, 8, 226, 0, 0]), (90, .ireturn, []), (91, .aload_n 0, []), (92, .getfield 12, [11, 0, 489, 2, 1]), (95, .getfield 116, [2, 9, 229, 0, 0]), (98, .ireturn, []), (99, .aload_n 0, []), (100, .getfield 12, [11, 0, 489, 2, 1]), (103, .getfield 229, [2, 1, 206, 2, 1]), (106, .getfield 178, [10, 3, 183, 0, 0]), (109, .ireturn, []), (110, .aload_n 0, []), (111, .getfield 12, [11, 0, 489, 2, 1]), (114, .getfield 85, [2, 11, 237, 0, 0]), (117, .ireturn, []), (118, .aload_n 0, []), (119, .iload_n 1, []), (120, .invokevirtual 268, [166, 1, 1085, 0]), (123, .ireturn, [])]
/-- IsHeIn.look -/
def me165 : mM := (1, ⟨"IsHeIn", "look", "(I)I"⟩, prog_1_method_27_code, 2, (some .int), 11, [1074, 128, 1072, 1073], mc165)
def mc166 : List mI := [(0, .iload_n 1, []), (1, .tableswitch 102 8 13 #[39, 50, 61, 72, 83, 91], [39]), (40, .aload_n 0, []), (41, .getfield 12, [11, 0, 489, 2, 1]), (44, .getfield 166, [2, 2, 209, 2, 1]), (47, .getfield 178, [10, 3, 183, 0, 0]), (50, .ireturn, []), (51, .aload_n 0, []), (52, .getfield 12, [11, 0, 489, 2, 1]), (55, .getfield 181, [2, 4, 215, 2, 1]), (58, .getfield 178, [10, 3, 183, 0, 0]), (61, .ireturn, []), (62, .aload_n 0, []), (63, .getfield 12, [11, 0, 489, 2, 1]), (66, .getfield 188, [2, 5, 217, 2, 1]), (69, .getfield 178, [10, 3, 183, 0, 0]), (72, .ireturn, []), (73, .aload_n 0, []), (74, .getfield 12, [11, 0, 489, 2, 1]), (77, .getfield 207, [2, 6, 220, 2, 1]), (80, .getfield 178, [10, 3, 183, 0, 0]), (83, .ireturn, []), (84, .aload_n 0, []), (85, .getfield 26, [11, 3, 492, 2, 1]), (88, .getfield 271, [5, 1, 294, 0, 0]), (91, .ireturn, []), (92, .aload_n 0, []), (93, .getfield 12, [11, 0, 489, 2, 1]), (96, .getfield 198, [2, 7, 223, 2, 1]), (99, .getfield 178, [10, 3, 183, 0, 0]), (102, .ireturn, []), (103, .iconst (-1), []), (104, .ireturn, [])]
/-- IsHeIn.lookAtTold -/
def me166 : mM := (1, ⟨"IsHeIn", "lookAtTold", "(I)I"⟩, prog_1_method_28_code, 2, (some .int), 11, [1088, 128, 1087, 40], mc166)
def mc167 : List mI := [(0, .aload_n 0, []), (1, .getfield 12, [11, 0, 489, 2, 1]), (4, .iload_n 1, []), (5, .invokevirtual 123, [42, 1, 567, 0]), (8, .ifCond .eq 15, []), (11, .aload_n 0, []), (12, .getfield 58, [11, 7, 496, 2, 1]), (15, .iload_n 1, []), (16, .iconst 0, []), (17, .invokevirtual 274, [8, 2, 1093, 0]), (20, .goto 4, []), (23, .iconst (-1), []), (24, .ireturn, [])]
/-- IsHeIn.next -/
def me167 : mM := (1, ⟨"IsHeIn", "next", "(I)I"⟩, prog_1_method_29_code, 2, (some .int), 11, [1092, 128, 1090, 1091], mc167)
def mc168 : List mI := [(0, .aload_n 0, []), (1, .getfield 12, [11, 0, 489, 2, 1]), (4, .iload_n 1, []), (5, .invokevirtual 123, [42, 1, 567, 0]), (8, .ifCond .eq 19, []), (11, .iload_n 2, []), (12, .ifCond .lt 15, []), (15, .aload_n 0, []), (16, .getfield 58, [11, 7, 496, 2, 1]), (19, .iload_n 1, []), (20, .iload_n 2, []), (21, .invokevirtual 274, [8, 2, 1093, 0]), (24, .goto 4, []), (27, .iconst (-1), []), (28, .ireturn, [])]
/-- IsHeIn.looksAt -/
def me168 : mM := (1, ⟨"IsHeIn", "looksAt", "(II)I"⟩, prog_1_method_30_code, 3, (some .int), 11, [1118, 128, 1116, 1117], mc168)
def mc169 : List mI := [(0, .aload_n 0, []), (1, .getfield 12, [11, 0, 489, 2, 1]), (4, .iload_n 1, []), (5, .invokevirtual 123, [42, 1, 567, 0]), (8, .ifCond .eq 25, []), (11, .iload_n 2, []), (12, .iconst 0, []), (13, .sipush 9999, []), (16, .invokestatic 92, [188, 3, 535, 0]), (19, .ifCond .eq 14, []), (22, .iload_n 3, []), (23, .iconst 0, []), (24, .sipush 9999, []), (27, .invokestatic 92, [188, 3, 535, 0]), (30, .ifCond .ne 5, []), (33, .iconst (-1), []), (34, .ireturn, []), (35, .aload_n 0, []), (36, .getfield 58, [11, 7, 496, 2, 1]), (39, .iload_n 1, []), (40, .iload_n 2, []), (41, .iload_n 3, []), (42, .invokevirtual 277, [9, 3, 1123, 0]), (45, .ifCond .eq 7, []), (48, .iconst 1, []), (49, .goto 4, []), (52, .iconst 0, []), (53, .ireturn, [])]
/-- IsHeIn.say -/
def me169 : mM := (1, ⟨"IsHeIn", "say", "(III)I"⟩, prog_1_method_31_code, 4, (some .int), 11, [1122, 128, 1120, 1121], mc169)
def mc170 : List mI := [(0, .iload_n 1, []), (1, .iconst 0, []), (2, .iconst 1, []), (3, .invokestatic 92, [188, 3, 535, 0]), (6, .ifCond .eq 23, []), (9, .aload_n 0, []), (10, .getfield 58, [11, 7, 496, 2, 1]), (13, .iload_n 1, []), (14, .iconst 1, []), (15, .if_icmp .ne 7, []), (18, .iconst 1, []), (19, .goto 4, []), (22, .iconst 0, []), (23, .invokevirtual 280, [11, 1, 1135, 0]), (26, .goto 4, []), (29, .iconst (-1), []), (30, .ireturn, [])]
/-- IsHeIn.said -/
def me170 : mM := (1, ⟨"IsHeIn", "said", "(I)I"⟩, prog_1_method_32_code, 2, (some .int), 11, [1134, 128, 1132, 1133], mc170)
def mc171 : List mI := [(0, .iload_n 1, []), (1, .tableswitch 53 0 2 #[27, 35, 44], [27]), (28, .aload_n 0, []), (29, .getfield 58, [11, 7, 496, 2, 1]), (32, .invokevirtual 284, [13, 0, 1147, 0]), (35, .ireturn, []), (36, .aload_n 0, []), (37, .getfield 58, [11, 7, 496, 2, 1]), (40, .iconst 0, []), (41, .invokevirtual 287, [16, 1, 1155, 0]), (44, .ireturn, []), (45, .aload_n 0, []), (46, .getfield 58, [11, 7, 496, 2, 1]), (49, .iconst 1, []), (50, .invokevirtual 287, [16, 1, 1155, 0]), (53, .ireturn, []), (54, .iconst (-1), []), (55, .ireturn, [])]
/-- IsHeIn.many -/
def me171 : mM := (1, ⟨"IsHeIn", "many", "(I)I"⟩, prog_1_method_33_code, 2, (some .int), 11, [1146, 128, 1144, 1145], mc171)
def mc172 : List mI := [(0, .iload_n 1, []), (1, .iconst 0, []), (2, .sipush 1000, []), (5, .invokestatic 92, [188, 3, 535, 0]), (8, .ifCond .eq 12, []), (11, .iload_n 2, []), (12, .iconst 0, []), (13, .iconst 1, []), (14, .invokestatic 92, [188, 3, 535, 0]), (17, .ifCond .ne 5, []), (20, .iconst (-1), []), (21, .ireturn, []), (22, .aload_n 0, []), (23, .getfield 58, [11, 7, 496, 2, 1]), (26, .iload_n 1, []), (27, .iload_n 2, []), (28, .iconst 1, []), (29, .if_icmp .ne 7, []), (32, .iconst 1, []), (33, .goto 4, []), (36, .iconst 0, []), (37, .invokevirtual 290, [17, 2, 1171, 0]), (40, .ireturn, [])]
/-- IsHeIn.span -/
def me172 : mM := (1, ⟨"IsHeIn", "span", "(II)I"⟩, prog_1_method_34_code, 3, (some .int), 11, [1170, 128, 1168, 1169], mc172)
def mc173 : List mI := [(0, .aload_n 0, []), (1, .getfield 12, [11, 0, 489, 2, 1]), (4, .iload_n 1, []), (5, .invokevirtual 123, [42, 1, 567, 0]), (8, .ifCond .eq 13, []), (11, .iload_n 2, []), (12, .iconst 0, []), (13, .bipush 12, []), (15, .invokestatic 92, [188, 3, 535, 0]), (18, .ifCond .ne 5, []), (21, .iconst (-1), []), (22, .ireturn, []), (23, .aload_n 0, []), (24, .getfield 58, [11, 7, 496, 2, 1]), (27, .iload_n 1, []), (28, .iload_n 2, []), (29, .invokevirtual 293, [19, 2, 1183, 0]), (32, .ireturn, [])]
/-- IsHeIn.counted -/
def me173 : mM := (1, ⟨"IsHeIn", "counted", "(II)I"⟩, prog_1_method_35_code, 3, (some .int), 11, [1182, 128, 1180, 1181], mc173)
def mc174 : List mI := [(0, .iload_n 1, []), (1, .iconst 0, []), (2, .iconst 3, []), (3, .invokestatic 92, [188, 3, 535, 0]), (6, .ifCond .eq 14, []), (9, .aload_n 0, []), (10, .getfield 58, [11, 7, 496, 2, 1]), (13, .iload_n 1, []), (14, .invokevirtual 296, [20, 1, 1191, 0]), (17, .goto 4, []), (20, .iconst (-1), []), (21, .ireturn, [])]
/-- IsHeIn.empty -/
def me174 : mM := (1, ⟨"IsHeIn", "empty", "(I)I"⟩, prog_1_method_36_code, 2, (some .int), 11, [1190, 128, 1188, 1189], mc174)
def mc175 : List mI := [(0, .iload_n 1, []), (1, .iconst 0, []), (2, .iconst 2, []), (3, .invokestatic 92, [188, 3, 535, 0]), (6, .ifCond .eq 17, []), (9, .aload_n 0, []), (10, .getfield 12, [11, 0, 489, 2, 1]), (13, .getfield 96, [2, 0, 200, 2, 1]), (16, .getfield 178, [10, 3, 183, 0, 0]), (19, .iconst 2, []), (20, .if_icmp .ge 5, []), (23, .iconst (-1), []), (24, .ireturn, []), (25, .aload_n 0, []), (26, .getfield 58, [11, 7, 496, 2, 1]), (29, .iload_n 1, []), (30, .invokevirtual 299, [21, 1, 1199, 0]), (33, .ireturn, [])]
/-- IsHeIn.pair -/
def me175 : mM := (1, ⟨"IsHeIn", "pair", "(I)I"⟩, prog_1_method_37_code, 2, (some .int), 11, [1198, 128, 1196, 1197], mc175)
def mc176 : List mI := [(0, .iload_n 1, []), (1, .tableswitch 65 0 2 #[27, 38, 46], [27]), (28, .aload_n 0, []), (29, .getfield 12, [11, 0, 489, 2, 1]), (32, .invokevirtual 302, [49, 0, 1207, 0]), (35, .invokestatic 248, [320, 1, 1044, 0]), (38, .ireturn, []), (39, .aload_n 0, []), (40, .getfield 58, [11, 7, 496, 2, 1]), (43, .invokevirtual 305, [22, 0, 1211, 0]), (46, .ireturn, []), (47, .aload_n 0, []), (48, .getfield 12, [11, 0, 489, 2, 1]), (51, .invokevirtual 302, [49, 0, 1207, 0]), (54, .aload_n 0, []), (55, .getfield 12, [11, 0, 489, 2, 1]), (58, .invokevirtual 262, [47, 0, 1075, 0]), (61, .iand, []), (62, .invokestatic 248, [320, 1, 1044, 0]), (65, .ireturn, []), (66, .iconst (-1), []), (67, .ireturn, [])]
/-- IsHeIn.lack -/
def me176 : mM := (1, ⟨"IsHeIn", "lack", "(I)I"⟩, prog_1_method_38_code, 2, (some .int), 11, [1206, 128, 1204, 1205], mc176)
def mc177 : List mI := [(0, .aload_n 0, []), (1, .getfield 12, [11, 0, 489, 2, 1]), (4, .iload_n 1, []), (5, .invokevirtual 123, [42, 1, 567, 0]), (8, .ifCond .eq 12, []), (11, .iload_n 2, []), (12, .iconst 0, []), (13, .iconst 1, []), (14, .invokestatic 92, [188, 3, 535, 0]), (17, .ifCond .ne 5, []), (20, .iconst (-1), []), (21, .ireturn, []), (22, .aload_n 0, []), (23, .getfield 65, [11, 8, 497, 2, 1]), (26, .iload_n 1, []), (27, .aload_n 0, []), (28, .getfield 58, [11, 7, 496, 2, 1]), (31, .iload_n 1, []), (32, .invokevirtual 216, [1, 1, 963, 0]), (35, .iload_n 2, []), (36, .iconst 1, []), (37, .if_icmp .ne 7, []), (40, .iconst 1, []), (41, .goto 4, []), (44, .iconst 0, []), (45, .invokevirtual 308, [24, 3, 1219, 0]), (48, .ireturn, [])]
/-- IsHeIn.visit -/
def me177 : mM := (1, ⟨"IsHeIn", "visit", "(II)I"⟩, prog_1_method_39_code, 3, (some .int), 11, [1218, 128, 1216, 1217], mc177)
def mc178 : List mI := [(0, .aload_n 0, []), (1, .getfield 65, [11, 8, 497, 2, 1]), (4, .invokevirtual 312, [26, 0, 1231, 0]), (7, .sipush 1000, []), (10, .idiv, []), (11, .ireturn, [])]
/-- IsHeIn.expect -/
def me178 : mM := (1, ⟨"IsHeIn", "expect", "()I"⟩, prog_1_method_40_code, 1, (some .int), 11, [1230, 128, 1228, 1229], mc178)
def mc179 : List mI := [(0, .iload_n 1, []), (1, .ifCond .ne 11, []), (4, .aload_n 0, []), (5, .getfield 65, [11, 8, 497, 2, 1]), (8, .invokevirtual 315, [28, 0, 1248, 0]), (11, .ireturn, []), (12, .iload_n 1, []), (13, .iconst 1, []), (14, .if_icmp .ne 24, []), (17, .aload_n 0, []), (18, .getfield 65, [11, 8, 497, 2, 1]), (21, .aload_n 0, []), (22, .getfield 65, [11, 8, 497, 2, 1]), (25, .invokevirtual 315, [28, 0, 1248, 0]), (28, .invokevirtual 318, [27, 1, 1252, 0]), (31, .sipush 1000, []), (34, .idiv, []), (35, .goto 4, []), (38, .iconst (-1), []), (39, .ireturn, [])]
/-- IsHeIn.busy -/
def me179 : mM := (1, ⟨"IsHeIn", "busy", "(I)I"⟩, prog_1_method_41_code, 2, (some .int), 11, [1247, 128, 1245, 1246], mc179)
def mc180 : List mI := [(0, .iload_n 1, []), (1, .iconst 0, []), (2, .sipush 999, []), (5, .invokestatic 92, [188, 3, 535, 0]), (8, .ifCond .eq 24, []), (11, .iload_n 2, []), (12, .iconst 0, []), (13, .sipush 999, []), (16, .invokestatic 92, [188, 3, 535, 0]), (19, .ifCond .eq 13, []), (22, .iload_n 3, []), (23, .iconst 0, []), (24, .bipush 20, []), (26, .invokestatic 92, [188, 3, 535, 0]), (29, .ifCond .ne 5, []), (32, .iconst (-1), []), (33, .ireturn, []), (34, .aload_n 0, []), (35, .getfield 65, [11, 8, 497, 2, 1]), (38, .iload_n 1, []), (39, .iload_n 2, []), (40, .iload_n 3, []), (41, .invokevirtual 321, [29, 3, 1257, 0]), (44, .ireturn, [])]
/-- IsHeIn.tagCost -/
def me180 : mM := (1, ⟨"IsHeIn", "tagCost", "(III)I"⟩, prog_1_method_42_code, 4, (some .int), 11, [1256, 128, 1254, 1255], mc180)
def mc181 : List mI := [(0, .iload_n 1, []), (1, .iconst 0, []), (2, .sipush 999, []), (5, .invokestatic 92, [188, 3, 535, 0]), (8, .ifCond .eq 14, []), (11, .iload_n 2, []), (12, .iconst 0, []), (13, .sipush 999, []), (16, .invokestatic 92, [188, 3, 535, 0]), (19, .ifCond .ne 5, []), (22, .iconst (-1), []), (23, .ireturn, []), (24, .aload_n 0, []), (25, .getfield 65, [11, 8, 497, 2, 1]), (28, .iload_n 1, []), (29, .iload_n 2, []), (30, .invokevirtual 325, [30, 2, 1265, 0]), (33, .ireturn, [])]
/-- IsHeIn.tag -/
def me181 : mM := (1, ⟨"IsHeIn", "tag", "(II)I"⟩, prog_1_method_43_code, 3, (some .int), 11, [1264, 128, 1262, 1263], mc181)
def mc182 : List mI := [(0, .iload_n 1, []), (1, .iconst 0, []), (2, .sipush 999, []), (5, .invokestatic 92, [188, 3, 535, 0]), (8, .ifCond .eq 18, []), (11, .iload_n 2, []), (12, .ifCond .eq 16, []), (15, .iload_n 2, []), (16, .bipush 10, []), (18, .bipush 33, []), (20, .invokestatic 92, [188, 3, 535, 0]), (23, .ifCond .ne 5, []), (26, .iconst (-1), []), (27, .ireturn, []), (28, .aload_n 0, []), (29, .getfield 65, [11, 8, 497, 2, 1]), (32, .iload_n 1, []), (33, .invokevirtual 328, [32, 1, 1274, 0]), (36, .iload_n 2, []), (37, .ifCond .ne 13, []), (40, .aload_n 0, []), (41, .getfield 65, [11, 8, 497, 2, 1]), (44, .invokevirtual 331, [35, 0, 1291, 0]), (47, .goto 15, []), (50, .aload_n 0, []), (51, .getfield 65, [11, 8, 497, 2, 1]), (54, .iload_n 2, []), (55, .bipush 10, []), (57, .isub, []), (58, .iload_n 1, []), (59, .invokevirtual 334, [36, 2, 1295, 0]), (62, .ireturn, [])]
/-- IsHeIn.stands -/
def me182 : mM := (1, ⟨"IsHeIn", "stands", "(II)I"⟩, prog_1_method_44_code, 3, (some .int), 11, [1273, 128, 1271, 1272], mc182)
def mc183 : List mI := [(0, .aload_n 0, []), (1, .getfield 65, [11, 8, 497, 2, 1]), (4, .invokevirtual 337, [31, 0, 1303, 0]), (7, .ireturn, [])]
/-- IsHeIn.carries -/
def me183 : mM := (1, ⟨"IsHeIn", "carries", "()I"⟩, prog_1_method_45_code, 1, (some .int), 11, [1302, 128, 1300, 1301], mc183)
def mc184 : List mI := [(0, .aload_n 0, []), (1, .getfield 12, [11, 0, 489, 2, 1]), (4, .iload_n 1, []), (5, .invokevirtual 123, [42, 1, 567, 0]), (8, .ifCond .eq 24, []), (11, .iload_n 2, []), (12, .iconst 0, []), (13, .bipush 48, []), (15, .invokestatic 92, [188, 3, 535, 0]), (18, .ifCond .eq 14, []), (21, .aload_n 0, []), (22, .getfield 12, [11, 0, 489, 2, 1]), (25, .iload_n 1, []), (26, .invokevirtual 127, [44, 1, 580, 0]), (29, .ifCond .ne 5, []), (32, .iconst (-1), []), (33, .ireturn, []), (34, .aload_n 0, []), (35, .getfield 65, [11, 8, 497, 2, 1]), (38, .iload_n 1, []), (39, .iload_n 2, []), (40, .invokevirtual 340, [25, 2, 1311, 0]), (43, .ireturn, [])]
/-- IsHeIn.away -/
def me184 : mM := (1, ⟨"IsHeIn", "away", "(II)I"⟩, prog_1_method_46_code, 3, (some .int), 11, [1310, 128, 1308, 1309], mc184)
def mc185 : List mI := [(0, .aload_n 0, []), (1, .getfield 81, [11, 10, 499, 2, 1]), (4, .iload_n 1, []), (5, .invokevirtual 343, [121, 1, 1320, 0]), (8, .ireturn, [])]
/-- IsHeIn.knocks -/
def me185 : mM := (1, ⟨"IsHeIn", "knocks", "(I)I"⟩, prog_1_method_47_code, 2, (some .int), 11, [1319, 128, 1317, 1318], mc185)
def mc186 : List mI := [(0, .iload_n 1, []), (1, .iconst 0, []), (2, .iconst 1, []), (3, .invokestatic 92, [188, 3, 535, 0]), (6, .ifCond .ne 5, []), (9, .iconst (-1), []), (10, .ireturn, []), (11, .aload_n 0, []), (12, .getfield 81, [11, 10, 499, 2, 1]), (15, .invokevirtual 346, [123, 0, 1336, 0]), (18, .istore_n 2, []), (19, .iload_n 1, []), (20, .ifCond .ne 14, []), (23, .aload_n 0, []), (24, .getfield 81, [11, 10, 499, 2, 1]), (27, .iload_n 2, []), (28, .invokevirtual 349, [125, 1, 1357, 0]), (31, .goto 4, []), (34, .iload_n 2, []), (35, .ireturn, [])]
/-- IsHeIn.done -/
def me186 : mM := (1, ⟨"IsHeIn", "done", "(I)I"⟩, prog_1_method_48_code, 3, (some .int), 11, [1335, 128, 1333, 1334], mc186)
def mc187 : List mI := [(0, .iload_n 1, []), (1, .iconst 1, []), (2, .bipush 99, []), (4, .invokestatic 92, [188, 3, 535, 0]), (7, .ifCond .ne 5, []), (10, .iconst (-1), []), (11, .ireturn, []), (12, .aload_n 0, []), (13, .getfield 81, [11, 10, 499, 2, 1]), (16, .iload_n 1, []), (17, .invokevirtual 352, [128, 1, 1362, 0]), (20, .iload_n 2, []), (21, .ifCond .ne 16, []), (24, .aload_n 0, []), (25, .getfield 81, [11, 10, 499, 2, 1]), (28, .getfield 355, [9, 7, 471, 1, 0]), (31, .ldc2_w 359, [1000000, 1142]), (34, .ldiv, []), (35, .l2i, []), (36, .ireturn, []), (37, .iload_n 2, []), (38, .iconst 1, []), (39, .if_icmp .ne 11, []), (42, .aload_n 0, []), (43, .getfield 81, [11, 10, 499, 2, 1]), (46, .getfield 361, [9, 6, 469, 0, 0]), (49, .ireturn, []), (50, .iload_n 2, []), (51, .bipush 10, []), (53, .if_icmp .lt 34, []), (56, .iload_n 2, []), (57, .bipush 10, []), (59, .isub, []), (60, .aload_n 0, []), (61, .getfield 81, [11, 10, 499, 2, 1]), (64, .getfield 361, [9, 6, 469, 0, 0]), (67, .if_icmp .ge 20, []), (70, .aload_n 0, []), (71, .getfield 81, [11, 10, 499, 2, 1]), (74, .getfield 364, [9, 5, 467, 2, 1]), (77, .iload_n 2, []), (78, .bipush 10, []), (80, .isub, []), (81, .invokestatic 368, [189, 2, 1374, 0]), (84, .goto 4, []), (87, .iconst (-1), []), (88, .ireturn, [])]
/-- IsHeIn.fire -/
def me187 : mM := (1, ⟨"IsHeIn", "fire", "(II)I"⟩, prog_1_method_49_code, 3, (some .int), 11, [1361, 128, 1359, 1360], mc187)
def mc188 : List mI := [(0, .iload_n 0, []), (1, .iload_n 1, []), (2, .if_icmp .lt 12, []), (5, .iload_n 0, []), (6, .iload_n 2, []), (7, .if_icmp .gt 7, []), (10, .iconst 1, []), (11, .goto 4, []), (14, .iconst 0, []), (15, .ireturn, [])]
/-- IsHeIn.isWithin -/
def me188 : mM := (0, ⟨"IsHeIn", "isWithin", "(III)Z"⟩, prog_1_method_50_code, 3, (some .boolean), 11, [537, 128, 536, 0], mc188)
def mc189 : List mI := [(0, .aload_n 0, []), (1, .ifnull 19, []), (4, .iload_n 1, []), (5, .ifCond .lt 15, []), (8, .iload_n 1, []), (9, .aload_n 0, []), (10, .arraylength, []), (11, .if_icmp .ge 9, []), (14, .aload_n 0, []), (15, .iload_n 1, []), (16, .iaload, []), (17, .goto 4, []), (20, .iconst 0, []), (21, .ireturn, [])]
/-- IsHeIn.cell -/
def me189 : mM := (0, ⟨"IsHeIn", "cell", "([II)I"⟩, prog_1_method_51_code, 2, (some .int), 11, [664, 128, 663, 0], mc189)
def mc190 : List mI := [(0, .aload_n 0, []), (1, .ifnull 17, []), (4, .iload_n 1, []), (5, .ifCond .lt 13, []), (8, .iload_n 1, []), (9, .aload_n 0, []), (10, .arraylength, []), (11, .if_icmp .ge 7, []), (14, .aload_n 0, []), (15, .iload_n 1, []), (16, .iload_n 2, []), (17, .iastore, []), (18, .return_, [])]
/-- IsHeIn.put -/
def me190 : mM := (0, ⟨"IsHeIn", "put", "([III)V"⟩, prog_1_method_52_code, 3, none, 11, [648, 128, 647, 0], mc190)
def mc191 : List mI := [(0, .iload_n 0, []), (1, .i2l, []), (2, .iload_n 1, []), (3, .i2l, []), (4, .lmul, []), (5, .ldc2_w 359, [1000000, 1142]), (8, .ldiv, []), (9, .l2i, []), (10, .ireturn, [])]
/-- IsHeIn.share -/
def me191 : mM := (0, ⟨"IsHeIn", "share", "(II)I"⟩, prog_1_method_53_code, 2, (some .int), 11, [1141, 128, 1140, 0], mc191)
def mc192 : List mI := [(0, .aload_n 0, []), (1, .invokespecial 1, [-1, 0, 1380, 0]), (4, .aload_n 0, []), (5, .sipush 1894, []), (8, .newarray .int, [193]), (10, .putfield 7, [12, 0, 1381, 2, 1]), (13, .aload_n 0, []), (14, .sipush 1894, []), (17, .newarray .int, [193]), (19, .putfield 13, [12, 1, 1382, 2, 1]), (22, .aload_n 0, []), (23, .sipush 672, []), (26, .newarray .int, [193]), (28, .putfield 16, [12, 2, 1383, 2, 1]), (31, .aload_n 0, []), (32, .bipush 64, []), (34, .newarray .int, [193]), (36, .putfield 19, [12, 5, 1386, 2, 1]), (39, .aload_n 0, []), (40, .sipush 820, []), (43, .newarray .int, [193]), (45, .putfield 22, [12, 6, 1387, 2, 1]), (48, .aload_n 0, []), (49, .bipush 48, []), (51, .newarray .int, [193]), (53, .putfield 25, [12, 7, 1388, 2, 1]), (56, .aload_n 0, []), (57, .sipush 400, []), (60, .newarray .int, [193]), (62, .putfield 28, [12, 8, 1389, 2, 1]), (65, .aload_n 0, []), (66, .sipush 420, []), (69, .newarray .int, [193]), (71, .putfield 31, [12, 9, 1390, 2, 1]), (74, .aload_n 0, []), (75, .bipush 10, []), (77, .newarray .int, [193]), (79, .putfield 34, [12, 10, 1391, 2, 1]), (82, .aload_n 0, []), (83, .iconst (-1), []), (84, .putfield 37, [12, 24, 1405, 0, 0]), (87, .aload_n 0, []), (88, .bipush 13, []), (90, .newarray .long, [1487]), (92, .putfield 41, [12, 26, 1407, 2, 1]), (95, .aload_n 0, []), (96, .bipush 14, []), (98, .newarray .long, [1487]), (100, .putfield 45, [12, 27, 1408, 2, 1]), (103, .aload_n 0, []), (104, .iconst 4, []), (105, .newarray .long, [1487]), (107, .putfield 48, [12, 28, 1409, 2, 1]), (110, .aload_n 0, []), (111, .iconst 4, []), (112, .newarray .int, [193]), (114, .putfield 51, [12, 29, 1410, 2, 1]), (117, .aload_n 0, []), (118, .iconst 4, []), (119, .newarray .int, [193]), (121, .putfield 54, [12, 30, 1411, 2, 1]), (124, .aload_n 0, []), (125, .bipush 48, []), (127, .newarray .int, [193]), (129, .putfield 57, [12, 33, 1414, 2, 1]), (132, .aload_n 0, []), (133, .bipush 50, []), (135, .newarray .int, [193]), (137, .putfield 60, [12, 34, 1415, 2, 1]), (140, .return_, [])]
/-- IsHeInModel.<init> -/
def me192 : mM := (2, ⟨"IsHeInModel", "<init>", "()V"⟩, prog_14_method_1_code, 1, none, 12, [1379, 141, 1378, 0], mc192)
def mc193 : List mI := [(0, .iload_n 0, []), (1, .iload_n 1, []), (2, .if_icmp .lt 12, []), (5, .iload_n 0, []), (6, .iload_n 2, []), (7, .if_icmp .gt 7, []), (10, .iconst 1, []), (11, .goto 4, []), (14, .iconst 0, []), (15, .ireturn, [])]
/-- IsHeInModel.isIn -/
def me193 : mM := (0, ⟨"IsHeInModel", "isIn", "(III)Z"⟩, prog_14_method_2_code, 3, (some .boolean), 12, [1502, 141, 1501, 0], mc193)
def mc194 : List mI := [(0, .iload_n 0, []), (1, .iload_n 1, []), (2, .if_icmp .ge 7, []), (5, .iload_n 0, []), (6, .goto 4, []), (9, .iload_n 1, []), (10, .ireturn, [])]
/-- IsHeInModel.lesser -/
def me194 : mM := (0, ⟨"IsHeInModel", "lesser", "(II)I"⟩, prog_14_method_3_code, 2, (some .int), 12, [1722, 141, 1721, 0], mc194)
def mc195 : List mI := [(0, .iload_n 0, []), (1, .iload_n 1, []), (2, .if_icmp .le 7, []), (5, .iload_n 0, []), (6, .goto 4, []), (9, .iload_n 1, []), (10, .ireturn, [])]
/-- IsHeInModel.greater -/
def me195 : mM := (0, ⟨"IsHeInModel", "greater", "(II)I"⟩, prog_14_method_4_code, 2, (some .int), 12, [1725, 141, 1724, 0], mc195)
def mc196 : List mI := [(0, .iload_n 1, []), (1, .iconst 0, []), (2, .aload_n 0, []), (3, .getfield 7, [12, 0, 1381, 2, 1]), (6, .bipush 112, []), (8, .iaload, []), (9, .iconst 1, []), (10, .isub, []), (11, .invokestatic 63, [193, 3, 1500, 0]), (14, .ireturn, [])]
/-- IsHeInModel.isGuest -/
def me196 : mM := (1, ⟨"IsHeInModel", "isGuest", "(I)Z"⟩, prog_14_method_5_code, 2, (some .boolean), 12, [1510, 141, 1509, 56], mc196)
def mc197 : List mI := [(0, .iload_n 1, []), (1, .iconst 0, []), (2, .aload_n 0, []), (3, .getfield 7, [12, 0, 1381, 2, 1]), (6, .bipush 115, []), (8, .iaload, []), (9, .iconst 1, []), (10, .isub, []), (11, .invokestatic 63, [193, 3, 1500, 0]), (14, .ireturn, [])]
/-- IsHeInModel.isSign -/
def me197 : mM := (1, ⟨"IsHeInModel", "isSign", "(I)Z"⟩, prog_14_method_6_code, 2, (some .boolean), 12, [1763, 141, 1762, 100], mc197)
def mc198 : List mI := [(0, .aload_n 0, []), (1, .iconst 0, []), (2, .putfield 67, [12, 3, 1384, 0, 0]), (5, .return_, [])]
/-- IsHeInModel.forgets -/
def me198 : mM := (1, ⟨"IsHeInModel", "forgets", "()V"⟩, prog_14_method_7_code, 1, none, 12, [1495, 141, 1494, 55], mc198)
def mc199 : List mI := [(0, .aload_n 0, []), (1, .getfield 7, [12, 0, 1381, 2, 1]), (4, .iconst 1, []), (5, .iaload, []), (6, .istore_n 2, []), (7, .aload_n 0, []), (8, .getfield 7, [12, 0, 1381, 2, 1]), (11, .iconst 1, []), (12, .iload_n 1, []), (13, .iastore, []), (14, .aload_n 0, []), (15, .invokevirtual 70, [198, 0, 1492, 0]), (18, .iload_n 2, []), (19, .ireturn, [])]
/-- IsHeInModel.state -/
def me199 : mM := (1, ⟨"IsHeInModel", "state", "(I)I"⟩, prog_14_method_8_code, 3, (some .int), 12, [1491, 141, 1489, 1490], mc199)
def mc200 : List mI := [(0, .aload_n 0, []), (1, .getfield 7, [12, 0, 1381, 2, 1]), (4, .iconst 1, []), (5, .ldc 73, [0, 1664525, 1734]), (7, .aload_n 0, []), (8, .getfield 7, [12, 0, 1381, 2, 1]), (11, .iconst 1, []), (12, .iaload, []), (13, .imul, []), (14, .ldc 74, [0, 1013904223, 1735]), (16, .iadd, []), (17, .iastore, []), (18, .aload_n 0, []), (19, .getfield 7, [12, 0, 1381, 2, 1]), (22, .iconst 1, []), (23, .iaload, []), (24, .bipush 8, []), (26, .iushr, []), (27, .iload_n 1, []), (28, .irem, []), (29, .ireturn, [])]
/-- IsHeInModel.draw -/
def me200 : mM := (1, ⟨"IsHeInModel", "draw", "(I)I"⟩, prog_14_method_9_code, 2, (some .int), 12, [1733, 141, 1732, 95], mc200)
def mc201 : List mI := [(0, .iload_n 1, []), (1, .iconst 0, []), (2, .iconst 3, []), (3, .invokestatic 63, [193, 3, 1500, 0]), (6, .ifCond .eq 25, []), (9, .iload_n 2, []), (10, .iconst 0, []), (11, .bipush 99, []), (13, .invokestatic 63, [193, 3, 1500, 0]), (16, .ifCond .eq 15, []), (19, .aload_n 0, []), (20, .getfield 7, [12, 0, 1381, 2, 1]), (23, .bipush 112, []), (25, .iaload, []), (26, .bipush 12, []), (28, .if_icmp .ne 5, []), (31, .iconst (-1), []), (32, .ireturn, []), (33, .aload_n 0, []), (34, .getfield 7, [12, 0, 1381, 2, 1]), (37, .bipush 112, []), (39, .iaload, []), (40, .istore_n 3, []), (41, .aload_n 0, []), (42, .getfield 7, [12, 0, 1381, 2, 1]), (45, .bipush 119, []), (47, .iload_n 3, []), (48, .iadd, []), (49, .iload_n 1, []), (50, .iastore, []), (51, .aload_n 0, []), (52, .getfield 7, [12, 0, 1381, 2, 1]), (55, .sipush 131, []), (58, .iload_n 3, []), (59, .iadd, []), (60, .iload_n 2, []), (61, .iastore, []), (62, .aload_n 0, []), (63, .getfield 7, [12, 0, 1381, 2, 1]), (66, .iconst 3, []), (67, .iload_n 3, []), (68, .iadd, []), (69, .iconst 0, []), (70, .iastore, []), (71, .aload_n 0, []), (72, .getfield 7, [12, 0, 1381, 2, 1]), (75, .bipush 15, []), (77, .iload_n 3, []), (78, .iadd, []), (79, .iconst (-1), []), (80, .iastore, []), (81, .aload_n 0, []), (82, .getfield 7, [12, 0, 1381, 2, 1]), (85, .bipush 27, []), (87, .iload_n 3, []), (88, .iadd, []), (89, .iconst 0, []), (90, .iastore, []), (91, .iconst 0, []), (92, .istore 4, []), (94, .iload 4, []), (96, .bipush 6, []), (98, .if_icmp .ge 25, []), (101, .aload_n 0, []), (102, .getfield 7, [12, 0, 1381, 2, 1]), (105, .bipush 39, []), (107, .bipush 6, []), (109, .iload_n 3, []), (110, .imul, []), (111, .iadd, []), (112, .iload 4, []), (114, .iadd, []), (115, .iconst (-1), []), (116, .iastore, []), (117, .iinc 4 1, []), (120, .goto (-26), []), (123, .aload_n 0, []), (124, .getfield 7, [12, 0, 1381, 2, 1]), (127, .bipush 112, []), (129, .dup2, []), (130, .iaload, []), (131, .iconst 1, []), (132, .iadd, []), (133, .iastore, []), (134, .aload_n 0, []), (135, .invokevirtual 70, [198, 0, 1492, 0]), (138, .iload_n 3, []), (139, .ireturn, [])]
/-- IsHeInModel.guest -/
def me201 : mM := (1, ⟨"IsHeInModel", "guest", "(II)I"⟩, prog_14_method_10_code, 5, (some .int), 12, [1499, 141, 1497, 1498], mc201)
def mc202 : List mI := [(0, .iload_n 1, []), (1, .tableswitch 107 0 2 #[27, 50, 73], [27]), (28, .iload_n 3, []), (29, .iconst 0, []), (30, .bipush 20, []), (32, .invokestatic 63, [193, 3, 1500, 0]), (35, .ifCond .ne 5, []), (38, .iconst 0, []), (39, .ireturn, []), (40, .aload_n 0, []), (41, .getfield 7, [12, 0, 1381, 2, 1]), (44, .bipush 113, []), (46, .iload_n 3, []), (47, .iastore, []), (48, .goto 62, []), (51, .iload_n 3, []), (52, .iconst 0, []), (53, .bipush 9, []), (55, .invokestatic 63, [193, 3, 1500, 0]), (58, .ifCond .ne 5, []), (61, .iconst 0, []), (62, .ireturn, []), (63, .aload_n 0, []), (64, .getfield 7, [12, 0, 1381, 2, 1]), (67, .bipush 114, []), (69, .iload_n 3, []), (70, .iastore, []), (71, .goto 39, []), (74, .aload_n 0, []), (75, .iload_n 2, []), (76, .invokevirtual 75, [196, 1, 1507, 0]), (79, .ifCond .eq 13, []), (82, .iload_n 3, []), (83, .iconst 0, []), (84, .bipush 99, []), (86, .invokestatic 63, [193, 3, 1500, 0]), (89, .ifCond .ne 5, []), (92, .iconst 0, []), (93, .ireturn, []), (94, .aload_n 0, []), (95, .getfield 7, [12, 0, 1381, 2, 1]), (98, .sipush 131, []), (101, .iload_n 2, []), (102, .iadd, []), (103, .iload_n 3, []), (104, .iastore, []), (105, .goto 5, []), (108, .iconst 0, []), (109, .ireturn, []), (110, .aload_n 0, []), (111, .invokevirtual 70, [198, 0, 1492, 0]), (114, .iconst 1, []), (115, .ireturn, [])]
/-- IsHeInModel.set -/
def me202 : mM := (1, ⟨"IsHeInModel", "set", "(III)Z"⟩, prog_14_method_11_code, 4, (some .boolean), 12, [1506, 141, 1504, 1505], mc202)
def mc203 : List mI := [(0, .aload_n 0, []), (1, .getfield 79, [12, 15, 1396, 0, 0]), (4, .bipush 20, []), (6, .iadd, []), (7, .sipush 400, []), (10, .if_icmp .le 5, []), (13, .iconst (-1), []), (14, .ireturn, []), (15, .iconst 0, []), (16, .istore 6, []), (18, .iload 6, []), (20, .bipush 20, []), (22, .if_icmp .ge 93, []), (25, .iload 6, []), (27, .iconst 4, []), (28, .if_icmp .ge 7, []), (31, .iload_n 1, []), (32, .goto 39, []), (35, .iload 6, []), (37, .bipush 8, []), (39, .if_icmp .ge 7, []), (42, .iload_n 2, []), (43, .goto 28, []), (46, .iload 6, []), (48, .bipush 12, []), (50, .if_icmp .ge 7, []), (53, .iload_n 3, []), (54, .goto 17, []), (57, .iload 6, []), (59, .bipush 16, []), (61, .if_icmp .ge 8, []), (64, .iload 4, []), (66, .goto 5, []), (69, .iload 5, []), (71, .istore 7, []), (73, .aload_n 0, []), (74, .getfield 28, [12, 8, 1389, 2, 1]), (77, .aload_n 0, []), (78, .getfield 79, [12, 15, 1396, 0, 0]), (81, .iload 7, []), (83, .bipush 24, []), (85, .bipush 8, []), (87, .iload 6, []), (89, .iconst 4, []), (90, .irem, []), (91, .imul, []), (92, .isub, []), (93, .ishr, []), (94, .sipush 255, []), (97, .iand, []), (98, .iastore, []), (99, .aload_n 0, []), (100, .dup, []), (101, .getfield 79, [12, 15, 1396, 0, 0]), (104, .iconst 1, []), (105, .iadd, []), (106, .putfield 79, [12, 15, 1396, 0, 0]), (109, .iinc 6 1, []), (112, .goto (-94), []), (115, .aload_n 0, []), (116, .getfield 79, [12, 15, 1396, 0, 0]), (119, .ireturn, [])]
/-- IsHeInModel.feed -/
def me203 : mM := (1, ⟨"IsHeInModel", "feed", "(IIIII)I"⟩, prog_14_method_12_code, 8, (some .int), 12, [1514, 141, 1512, 1513], mc203)
def mc204 : List mI := [(0, .iload_n 1, []), (1, .iconst 0, []), (2, .aload_n 0, []), (3, .getfield 79, [12, 15, 1396, 0, 0]), (6, .invokestatic 63, [193, 3, 1500, 0]), (9, .ifCond .ne 5, []), (12, .iconst 0, []), (13, .ireturn, []), (14, .aload_n 0, []), (15, .iload_n 1, []), (16, .putfield 79, [12, 15, 1396, 0, 0]), (19, .iconst 1, []), (20, .ireturn, [])]
/-- IsHeInModel.end -/
def me204 : mM := (1, ⟨"IsHeInModel", "end", "(I)Z"⟩, prog_14_method_13_code, 2, (some .boolean), 12, [1518, 141, 1516, 1517], mc204)
def mc205 : List mI := [(0, .iload_n 1, []), (1, .aload_n 0, []), (2, .getfield 79, [12, 15, 1396, 0, 0]), (5, .if_icmp .ge 12, []), (8, .aload_n 0, []), (9, .getfield 28, [12, 8, 1389, 2, 1]), (12, .iload_n 1, []), (13, .iaload, []), (14, .goto 4, []), (17, .iconst (-1), []), (18, .ireturn, [])]
/-- IsHeInModel.see -/
def me205 : mM := (1, ⟨"IsHeInModel", "see", "(I)I"⟩, prog_14_method_14_code, 2, (some .int), 12, [1530, 141, 1529, 58], mc205)
def mc206 : List mI := [(0, .iload_n 0, []), (1, .bipush 97, []), (3, .bipush 122, []), (5, .invokestatic 63, [193, 3, 1500, 0]), (8, .ifCond .ne 14, []), (11, .iload_n 0, []), (12, .bipush 65, []), (14, .bipush 90, []), (16, .invokestatic 63, [193, 3, 1500, 0]), (19, .ifCond .eq 7, []), (22, .iconst 1, []), (23, .goto 4, []), (26, .iconst 0, []), (27, .ireturn, [])]
/-- IsHeInModel.isLetter -/
def me206 : mM := (0, ⟨"IsHeInModel", "isLetter", "(I)Z"⟩, prog_14_method_15_code, 1, (some .boolean), 12, [1533, 141, 1532, 0], mc206)
def mc207 : List mI := [(0, .iload_n 0, []), (1, .bipush 48, []), (3, .bipush 57, []), (5, .invokestatic 63, [193, 3, 1500, 0]), (8, .ireturn, [])]
/-- IsHeInModel.isDigit -/
def me207 : mM := (0, ⟨"IsHeInModel", "isDigit", "(I)Z"⟩, prog_14_method_16_code, 1, (some .boolean), 12, [1592, 141, 1591, 0], mc207)
def mc208 : List mI := [(0, .aload_n 0, []), (1, .getfield 82, [12, 16, 1397, 0, 0]), (4, .aload_n 0, []), (5, .getfield 85, [12, 18, 1399, 0, 0]), (8, .isub, []), (9, .aload_n 1, []), (10, .invokevirtual 88, [321, 0, 1547, 0]), (13, .if_icmp .ne 7, []), (16, .iconst 1, []), (17, .goto 4, []), (20, .iconst 0, []), (21, .istore_n 2, []), (22, .iconst 0, []), (23, .istore_n 3, []), (24, .iload_n 3, []), (25, .aload_n 1, []), (26, .invokevirtual 88, [321, 0, 1547, 0]), (29, .if_icmp .ge 38, []), (32, .iload_n 2, []), (33, .ifCond .eq 34, []), (36, .aload_n 0, []), (37, .getfield 28, [12, 8, 1389, 2, 1]), (40, .aload_n 0, []), (41, .getfield 85, [12, 18, 1399, 0, 0]), (44, .iload_n 3, []), (45, .iadd, []), (46, .iaload, []), (47, .aload_n 1, []), (48, .iload_n 3, []), (49, .invokevirtual 94, [322, 1, 1548, 0]), (52, .if_icmp .ne 7, []), (55, .iconst 1, []), (56, .goto 4, []), (59, .iconst 0, []), (60, .istore_n 2, []), (61, .iinc 3 1, []), (64, .goto (-40), []), (67, .iload_n 2, []), (68, .ireturn, [])]
/-- IsHeInModel.is -/
def me208 : mM := (1, ⟨"IsHeInModel", "is", "(Ljava/lang/String;)Z"⟩, prog_14_method_17_code, 4, (some .boolean), 12, [1546, 141, 1545, 61], mc208)
def mc209 : List mI := [(0, .aload_n 0, []), (1, .ldc 98, [1, 14, 0]), (3, .invokevirtual 100, [208, 1, 1543, 0]), (6, .ifCond .eq 6, []), (9, .bipush 20, []), (11, .ireturn, []), (12, .aload_n 0, []), (13, .ldc 104, [1, 15, 0]), (15, .invokevirtual 100, [208, 1, 1543, 0]), (18, .ifCond .eq 6, []), (21, .bipush 21, []), (23, .ireturn, []), (24, .aload_n 0, []), (25, .ldc 106, [1, 16, 0]), (27, .invokevirtual 100, [208, 1, 1543, 0]), (30, .ifCond .eq 6, []), (33, .bipush 22, []), (35, .ireturn, []), (36, .aload_n 0, []), (37, .ldc 108, [1, 17, 0]), (39, .invokevirtual 100, [208, 1, 1543, 0]), (42, .ifCond .eq 6, []), (45, .bipush 23, []), (47, .ireturn, []), (48, .aload_n 0, []), (49, .ldc 110, [1, 18, 0]), (51, .invokevirtual 100, [208, 1, 1543, 0]), (54, .ifCond .eq 6, []), (57, .bipush 24, []), (59, .ireturn, []), (60, .aload_n 0, []), (61, .ldc 112, [1, 19, 0]), (63, .invokevirtual 100, [208, 1, 1543, 0]), (66, .ifCond .eq 8, []), (69, .bipush 25, []), (71, .goto 4, []), (74, .iconst 1, []), (75, .ireturn, [])]
/-- IsHeInModel.wordOfLaw -/
def me209 : mM := (1, ⟨"IsHeInModel", "wordOfLaw", "()I"⟩, prog_14_method_18_code, 1, (some .int), 12, [1568, 141, 1567, 63], mc209)
def mc210 : List mI := [(0, .aload_n 0, []), (1, .ldc 114, [1, 5, 0]), (3, .invokevirtual 100, [208, 1, 1543, 0]), (6, .ifCond .eq 6, []), (9, .bipush 41, []), (11, .ireturn, []), (12, .aload_n 0, []), (13, .ldc 116, [1, 6, 0]), (15, .invokevirtual 100, [208, 1, 1543, 0]), (18, .ifCond .eq 6, []), (21, .bipush 42, []), (23, .ireturn, []), (24, .aload_n 0, []), (25, .ldc 118, [1, 7, 0]), (27, .invokevirtual 100, [208, 1, 1543, 0]), (30, .ifCond .eq 6, []), (33, .bipush 43, []), (35, .ireturn, []), (36, .aload_n 0, []), (37, .ldc 120, [1, 8, 0]), (39, .invokevirtual 100, [208, 1, 1543, 0]), (42, .ifCond .eq 6, []), (45, .bipush 44, []), (47, .ireturn, []), (48, .aload_n 0, []), (49, .ldc 122, [1, 9, 0]), (51, .invokevirtual 100, [208, 1, 1543, 0]), (54, .ifCond .eq 6, []), (57, .bipush 45, []), (59, .ireturn, []), (60, .aload_n 0, []), (61, .ldc 124, [1, 10, 0]), (63, .invokevirtual 100, [208, 1, 1543, 0]), (66, .ifCond .eq 6, []), (69, .bipush 46, []), (71, .ireturn, []), (72, .aload_n 0, []), (73, .ldc 126, [1, 11, 0]), (75, .invokevirtual 100, [208, 1, 1543, 0]), (78, .ifCond .eq 6, []), (81, .bipush 47, []), (83, .ireturn, []), (84, .aload_n 0, []), (85, .ldc 128, [1, 12, 0]), (87, .invokevirtual 100, [208, 1, 1543, 0]), (90, .ifCond .eq 6, []), (93, .bipush 48, []), (95, .ireturn, []), (96, .aload_n 0, []), (97, .ldc 130, [1, 13, 0]), (99, .invokevirtual 100, [208, 1, 1543, 0]), (102, .ifCond .eq 8, []), (105, .bipush 49, []), (107, .goto 7, []), (110, .aload_n 0, []), (111, .invokevirtual 132, [209, 0, 1565, 0]), (114, .ireturn, [])]
/-- IsHeInModel.asked -/
def me210 : mM := (1, ⟨"IsHeInModel", "asked", "()I"⟩, prog_14_method_19_code, 1, (some .int), 12, [1555, 141, 1554, 62], mc210)
def mc211 : List mI := [(0, .aload_n 0, []), (1, .ldc 135, [1, 1, 0]), (3, .invokevirtual 100, [208, 1, 1543, 0]), (6, .ifCond .eq 5, []), (9, .iconst 3, []), (10, .ireturn, []), (11, .aload_n 0, []), (12, .ldc 137, [1, 2, 0]), (14, .invokevirtual 100, [208, 1, 1543, 0]), (17, .ifCond .eq 5, []), (20, .iconst 4, []), (21, .ireturn, []), (22, .aload_n 0, []), (23, .ldc 139, [1, 3, 0]), (25, .invokevirtual 100, [208, 1, 1543, 0]), (28, .ifCond .eq 5, []), (31, .iconst 5, []), (32, .ireturn, []), (33, .aload_n 0, []), (34, .ldc 141, [1, 4, 0]), (36, .invokevirtual 100, [208, 1, 1543, 0]), (39, .ifCond .eq 8, []), (42, .bipush 6, []), (44, .goto 7, []), (47, .aload_n 0, []), (48, .invokevirtual 143, [210, 0, 1552, 0]), (51, .ireturn, [])]
/-- IsHeInModel.lawWord -/
def me211 : mM := (1, ⟨"IsHeInModel", "lawWord", "()I"⟩, prog_14_method_20_code, 1, (some .int), 12, [1541, 141, 1540, 60], mc211)
def mc212 : List mI := [(0, .aload_n 0, []), (1, .ldc 146, [1, 20, 0]), (3, .invokevirtual 100, [208, 1, 1543, 0]), (6, .ifCond .eq 6, []), (9, .bipush 7, []), (11, .ireturn, []), (12, .aload_n 0, []), (13, .ldc 148, [1, 21, 0]), (15, .invokevirtual 100, [208, 1, 1543, 0]), (18, .ifCond .eq 6, []), (21, .bipush 8, []), (23, .ireturn, []), (24, .aload_n 0, []), (25, .ldc 150, [1, 22, 0]), (27, .invokevirtual 100, [208, 1, 1543, 0]), (30, .ifCond .eq 8, []), (33, .bipush 9, []), (35, .goto 4, []), (38, .iconst 1, []), (39, .ireturn, [])]
/-- IsHeInModel.signWord -/
def me212 : mM := (1, ⟨"IsHeInModel", "signWord", "()I"⟩, prog_14_method_21_code, 1, (some .int), 12, [1578, 141, 1577, 64], mc212)
def mc213 : List mI := [(0, .aload_n 0, []), (1, .ldc 152, [1, 23, 0]), (3, .invokevirtual 100, [208, 1, 1543, 0]), (6, .ifCond .eq 6, []), (9, .bipush 10, []), (11, .ireturn, []), (12, .aload_n 0, []), (13, .ldc 154, [1, 24, 0]), (15, .invokevirtual 100, [208, 1, 1543, 0]), (18, .ifCond .eq 6, []), (21, .bipush 11, []), (23, .ireturn, []), (24, .aload_n 0, []), (25, .ldc 156, [1, 25, 0]), (27, .invokevirtual 100, [208, 1, 1543, 0]), (30, .ifCond .eq 6, []), (33, .bipush 12, []), (35, .ireturn, []), (36, .aload_n 0, []), (37, .ldc 158, [1, 26, 0]), (39, .invokevirtual 100, [208, 1, 1543, 0]), (42, .ifCond .eq 8, []), (45, .bipush 13, []), (47, .goto 4, []), (50, .iconst 1, []), (51, .ireturn, [])]
/-- IsHeInModel.shiftWord -/
def me213 : mM := (1, ⟨"IsHeInModel", "shiftWord", "()I"⟩, prog_14_method_22_code, 1, (some .int), 12, [1585, 141, 1584, 65], mc213)
def mc214 : List mI := [(0, .aload_n 0, []), (1, .getfield 159, [12, 11, 1392, 0, 0]), (4, .ifCond .ne 10, []), (7, .aload_n 0, []), (8, .invokevirtual 162, [211, 0, 1538, 0]), (11, .goto 22, []), (14, .aload_n 0, []), (15, .getfield 159, [12, 11, 1392, 0, 0]), (18, .iconst 1, []), (19, .if_icmp .ne 10, []), (22, .aload_n 0, []), (23, .invokevirtual 165, [212, 0, 1575, 0]), (26, .goto 7, []), (29, .aload_n 0, []), (30, .invokevirtual 168, [213, 0, 1582, 0]), (33, .ireturn, [])]
/-- IsHeInModel.word -/
def me214 : mM := (1, ⟨"IsHeInModel", "word", "()I"⟩, prog_14_method_23_code, 1, (some .int), 12, [1537, 141, 1536, 59], mc214)
def mc215 : List mI := [(0, .aload_n 0, []), (1, .aload_n 0, []), (2, .getfield 82, [12, 16, 1397, 0, 0]), (5, .invokevirtual 171, [205, 1, 1527, 0]), (8, .bipush 32, []), (10, .if_icmp .eq 16, []), (13, .aload_n 0, []), (14, .aload_n 0, []), (15, .getfield 82, [12, 16, 1397, 0, 0]), (18, .invokevirtual 171, [205, 1, 1527, 0]), (21, .bipush 10, []), (23, .if_icmp .ne 16, []), (26, .aload_n 0, []), (27, .dup, []), (28, .getfield 82, [12, 16, 1397, 0, 0]), (31, .iconst 1, []), (32, .iadd, []), (33, .putfield 82, [12, 16, 1397, 0, 0]), (36, .goto (-36), []), (39, .aload_n 0, []), (40, .aload_n 0, []), (41, .getfield 82, [12, 16, 1397, 0, 0]), (44, .putfield 85, [12, 18, 1399, 0, 0]), (47, .aload_n 0, []), (48, .aload_n 0, []), (49, .getfield 82, [12, 16, 1397, 0, 0]), (52, .invokevirtual 171, [205, 1, 1527, 0]), (55, .istore_n 1, []), (56, .iload_n 1, []), (57, .iconst (-1), []), (58, .if_icmp .ne 11, []), (61, .aload_n 0, []), (62, .iconst 0, []), (63, .putfield 175, [12, 17, 1398, 0, 0]), (66, .goto 240, []), (69, .iload_n 1, []), (70, .invokestatic 178, [206, 1, 1531, 0]), (73, .ifCond .eq 41, []), (76, .aload_n 0, []), (77, .aload_n 0, []), (78, .getfield 82, [12, 16, 1397, 0, 0]), (81, .invokevirtual 171, [205, 1, 1527, 0]), (84, .invokestatic 178, [206, 1, 1531, 0]), (87, .ifCond .eq 16, []), (90, .aload_n 0, []), (91, .dup, []), (92, .getfield 82, [12, 16, 1397, 0, 0]), (95, .iconst 1, []), (96, .iadd, []), (97, .putfield 82, [12, 16, 1397, 0, 0]), (100, .goto (-24), []), (103, .aload_n 0, []), (104, .aload_n 0, []), (105, .invokevirtual 181, [214, 0, 1534, 0]), (108, .putfield 175, [12, 17, 1398, 0, 0]), (111, .goto 195, []), (114, .iload_n 1, []), (115, .invokestatic 184, [207, 1, 1590, 0]), (118, .ifCond .eq 96, []), (121, .aload_n 0, []), (122, .iconst 0, []), (123, .putfield 187, [12, 19, 1400, 0, 0]), (126, .aload_n 0, []), (127, .aload_n 0, []), (128, .getfield 82, [12, 16, 1397, 0, 0]), (131, .invokevirtual 171, [205, 1, 1527, 0]), (134, .invokestatic 184, [207, 1, 1590, 0]), (137, .ifCond .eq 52, []), (140, .aload_n 0, []), (141, .getfield 82, [12, 16, 1397, 0, 0]), (144, .aload_n 0, []), (145, .getfield 85, [12, 18, 1399, 0, 0]), (148, .iconst 4, []), (149, .iadd, []), (150, .if_icmp .ge 26, []), (153, .aload_n 0, []), (154, .bipush 10, []), (156, .aload_n 0, []), (157, .getfield 187, [12, 19, 1400, 0, 0]), (160, .imul, []), (161, .aload_n 0, []), (162, .aload_n 0, []), (163, .getfield 82, [12, 16, 1397, 0, 0]), (166, .invokevirtual 171, [205, 1, 1527, 0]), (169, .iadd, []), (170, .bipush 48, []), (172, .isub, []), (173, .putfield 187, [12, 19, 1400, 0, 0]), (176, .aload_n 0, []), (177, .dup, []), (178, .getfield 82, [12, 16, 1397, 0, 0]), (181, .iconst 1, []), (182, .iadd, []), (183, .putfield 82, [12, 16, 1397, 0, 0]), (186, .goto (-60), []), (189, .aload_n 0, []), (190, .aload_n 0, []), (191, .getfield 82, [12, 16, 1397, 0, 0]), (194, .aload_n 0, []), (195, .getfield 85, [12, 18, 1399, 0, 0]), (198, .isub, []), (199, .iconst 5, []), (200, .if_icmp .ge 7, []), (203, .iconst 2, []), (204, .goto 4, []), (207, .iconst 1, []), (208, .putfield 175, [12, 17, 1398, 0, 0]), (211, .goto 95, []), (214, .aload_n 0, []), (215, .dup, []), (216, .getfield 82, [12, 16, 1397, 0, 0]), (219, .iconst 1, []), (220, .iadd, []), (221, .putfield 82, [12, 16, 1397, 0, 0]), (224, .iload_n 1, []), (225, .bipush 59, []), (227, .if_icmp .eq 57, []), (230, .iload_n 1, []), (231, .bipush 43, []), (233, .if_icmp .eq 51, []), (236, .iload_n 1, []), (237, .bipush 45, []), (239, .if_icmp .eq 45, []), (242, .iload_n 1, []), (243, .bipush 42, []), (245, .if_icmp .eq 39, []), (248, .iload_n 1, []), (249, .bipush 47, []), (251, .if_icmp .eq 33, []), (254, .iload_n 1, []), (255, .bipush 40, []), (257, .if_icmp .eq 27, []), (260, .iload_n 1, []), (261, .bipush 41, []), (263, .if_icmp .eq 21, []), (266, .iload_n 1, []), (267, .bipush 60, []), (269, .if_icmp .eq 15, []), (272, .iload_n 1, []), (273, .bipush 61, []), (275, .if_icmp .eq 9, []), (278, .iload_n 1, []), (279, .bipush 62, []), (281, .if_icmp .ne 7, []), (284, .iconst 1, []), (285, .goto 4, []), (288, .iconst 0, []), (289, .istore_n 2, []), (290, .aload_n 0, []), (291, .iload_n 2, []), (292, .ifCond .eq 10, []), (295, .bipush 100, []), (297, .iload_n 1, []), (298, .iadd, []), (299, .goto 4, []), (302, .iconst 1, []), (303, .putfield 175, [12, 17, 1398, 0, 0]), (306, .return_, [])]
/-- IsHeInModel.next0 -/
def me215 : mM := (1, ⟨"IsHeInModel", "next0", "()V"⟩, prog_14_method_24_code, 3, none, 12, [1526, 141, 1525, 57], mc215)
def mc216 : List mI := [(0, .aload_n 0, []), (1, .iload_n 1, []), (2, .putfield 190, [12, 20, 1401, 0, 0]), (5, .aload_n 0, []), (6, .aload_n 0, []), (7, .getfield 85, [12, 18, 1399, 0, 0]), (10, .putfield 193, [12, 21, 1402, 0, 0]), (13, .iconst 0, []), (14, .ireturn, [])]
/-- IsHeInModel.bad -/
def me216 : mM := (1, ⟨"IsHeInModel", "bad", "(I)Z"⟩, prog_14_method_25_code, 2, (some .boolean), 12, [1604, 141, 1603, 68], mc216)
def mc217 : List mI := [(0, .aload_n 0, []), (1, .getfield 175, [12, 17, 1398, 0, 0]), (4, .iload_n 1, []), (5, .if_icmp .eq 9, []), (8, .aload_n 0, []), (9, .iconst 1, []), (10, .invokevirtual 196, [216, 1, 1601, 0]), (13, .ireturn, []), (14, .aload_n 0, []), (15, .invokevirtual 199, [215, 0, 1523, 0]), (18, .iconst 1, []), (19, .ireturn, [])]
/-- IsHeInModel.need -/
def me217 : mM := (1, ⟨"IsHeInModel", "need", "(I)Z"⟩, prog_14_method_26_code, 2, (some .boolean), 12, [1640, 141, 1639, 77], mc217)
def mc218 : List mI := [(0, .aload_n 0, []), (1, .getfield 22, [12, 6, 1387, 2, 1]), (4, .iconst 2, []), (5, .aload_n 0, []), (6, .getfield 202, [12, 13, 1394, 0, 0]), (9, .imul, []), (10, .iload_n 1, []), (11, .iastore, []), (12, .aload_n 0, []), (13, .getfield 22, [12, 6, 1387, 2, 1]), (16, .iconst 2, []), (17, .aload_n 0, []), (18, .getfield 202, [12, 13, 1394, 0, 0]), (21, .imul, []), (22, .iconst 1, []), (23, .iadd, []), (24, .iload_n 2, []), (25, .iastore, []), (26, .aload_n 0, []), (27, .dup, []), (28, .getfield 202, [12, 13, 1394, 0, 0]), (31, .iconst 1, []), (32, .iadd, []), (33, .putfield 202, [12, 13, 1394, 0, 0]), (36, .return_, [])]
/-- IsHeInModel.lay -/
def me218 : mM := (1, ⟨"IsHeInModel", "lay", "(II)V"⟩, prog_14_method_27_code, 3, none, 12, [1620, 141, 1619, 72], mc218)
def mc219 : List mI := [(0, .aload_n 0, []), (1, .getfield 205, [12, 23, 1404, 0, 0]), (4, .bipush 8, []), (6, .if_icmp .ne 9, []), (9, .aload_n 0, []), (10, .iconst 3, []), (11, .invokevirtual 196, [216, 1, 1601, 0]), (14, .ireturn, []), (15, .aload_n 0, []), (16, .dup, []), (17, .getfield 205, [12, 23, 1404, 0, 0]), (20, .iconst 1, []), (21, .iadd, []), (22, .putfield 205, [12, 23, 1404, 0, 0]), (25, .aload_n 0, []), (26, .invokevirtual 199, [215, 0, 1523, 0]), (29, .iconst 1, []), (30, .ireturn, [])]
/-- IsHeInModel.opens -/
def me219 : mM := (1, ⟨"IsHeInModel", "opens", "()Z"⟩, prog_14_method_28_code, 1, (some .boolean), 12, [1636, 141, 1635, 76], mc219)
def mc220 : List mI := [(0, .aload_n 0, []), (1, .invokevirtual 208, [221, 0, 1609, 0]), (4, .ifCond .ne 5, []), (7, .iconst 0, []), (8, .ireturn, []), (9, .aload_n 0, []), (10, .getfield 175, [12, 17, 1398, 0, 0]), (13, .sipush 143, []), (16, .if_icmp .eq 13, []), (19, .aload_n 0, []), (20, .getfield 175, [12, 17, 1398, 0, 0]), (23, .sipush 145, []), (26, .if_icmp .ne 43, []), (29, .aload_n 0, []), (30, .getfield 175, [12, 17, 1398, 0, 0]), (33, .sipush 143, []), (36, .if_icmp .ne 8, []), (39, .bipush 23, []), (41, .goto 5, []), (44, .bipush 24, []), (46, .istore_n 1, []), (47, .aload_n 0, []), (48, .invokevirtual 199, [215, 0, 1523, 0]), (51, .aload_n 0, []), (52, .invokevirtual 208, [221, 0, 1609, 0]), (55, .ifCond .ne 5, []), (58, .iconst 0, []), (59, .ireturn, []), (60, .aload_n 0, []), (61, .iload_n 1, []), (62, .iconst 0, []), (63, .invokevirtual 212, [218, 2, 1617, 0]), (66, .goto (-57), []), (69, .iconst 1, []), (70, .ireturn, [])]
/-- IsHeInModel.sumUp -/
def me220 : mM := (1, ⟨"IsHeInModel", "sumUp", "()Z"⟩, prog_14_method_29_code, 2, (some .boolean), 12, [1608, 141, 1607, 69], mc220)
def mc221 : List mI := [(0, .aload_n 0, []), (1, .invokevirtual 216, [222, 0, 1613, 0]), (4, .ifCond .ne 5, []), (7, .iconst 0, []), (8, .ireturn, []), (9, .aload_n 0, []), (10, .getfield 175, [12, 17, 1398, 0, 0]), (13, .sipush 142, []), (16, .if_icmp .eq 13, []), (19, .aload_n 0, []), (20, .getfield 175, [12, 17, 1398, 0, 0]), (23, .sipush 147, []), (26, .if_icmp .ne 89, []), (29, .aload_n 0, []), (30, .getfield 175, [12, 17, 1398, 0, 0]), (33, .sipush 147, []), (36, .if_icmp .ne 7, []), (39, .iconst 1, []), (40, .goto 4, []), (43, .iconst 0, []), (44, .istore_n 1, []), (45, .aload_n 0, []), (46, .invokevirtual 199, [215, 0, 1523, 0]), (49, .iload_n 1, []), (50, .ifCond .eq 46, []), (53, .aload_n 0, []), (54, .getfield 187, [12, 19, 1400, 0, 0]), (57, .istore_n 2, []), (58, .aload_n 0, []), (59, .getfield 175, [12, 17, 1398, 0, 0]), (62, .iconst 2, []), (63, .if_icmp .eq 9, []), (66, .aload_n 0, []), (67, .iconst 1, []), (68, .invokevirtual 196, [216, 1, 1601, 0]), (71, .ireturn, []), (72, .iload_n 2, []), (73, .ifCond .ne 9, []), (76, .aload_n 0, []), (77, .iconst 2, []), (78, .invokevirtual 196, [216, 1, 1601, 0]), (81, .ireturn, []), (82, .aload_n 0, []), (83, .invokevirtual 199, [215, 0, 1523, 0]), (86, .aload_n 0, []), (87, .bipush 26, []), (89, .iload_n 2, []), (90, .invokevirtual 212, [218, 2, 1617, 0]), (93, .goto 19, []), (96, .aload_n 0, []), (97, .invokevirtual 216, [222, 0, 1613, 0]), (100, .ifCond .ne 5, []), (103, .iconst 0, []), (104, .ireturn, []), (105, .aload_n 0, []), (106, .bipush 25, []), (108, .iconst 0, []), (109, .invokevirtual 212, [218, 2, 1617, 0]), (112, .goto (-103), []), (115, .iconst 1, []), (116, .ireturn, [])]
/-- IsHeInModel.product -/
def me221 : mM := (1, ⟨"IsHeInModel", "product", "()Z"⟩, prog_14_method_30_code, 3, (some .boolean), 12, [1612, 141, 1611, 70], mc221)
def mc222 : List mI := [(0, .aload_n 0, []), (1, .getfield 175, [12, 17, 1398, 0, 0]), (4, .bipush 41, []), (6, .bipush 49, []), (8, .invokestatic 63, [193, 3, 1500, 0]), (11, .istore_n 1, []), (12, .aload_n 0, []), (13, .getfield 175, [12, 17, 1398, 0, 0]), (16, .iconst 2, []), (17, .if_icmp .eq 13, []), (20, .iload_n 1, []), (21, .ifCond .ne 9, []), (24, .aload_n 0, []), (25, .iconst 1, []), (26, .invokevirtual 196, [216, 1, 1601, 0]), (29, .ireturn, []), (30, .aload_n 0, []), (31, .iload_n 1, []), (32, .ifCond .eq 13, []), (35, .aload_n 0, []), (36, .getfield 175, [12, 17, 1398, 0, 0]), (39, .bipush 40, []), (41, .isub, []), (42, .goto 4, []), (45, .iconst 0, []), (46, .aload_n 0, []), (47, .getfield 187, [12, 19, 1400, 0, 0]), (50, .invokevirtual 212, [218, 2, 1617, 0]), (53, .aload_n 0, []), (54, .invokevirtual 199, [215, 0, 1523, 0]), (57, .iconst 1, []), (58, .ireturn, [])]
/-- IsHeInModel.unit -/
def me222 : mM := (1, ⟨"IsHeInModel", "unit", "()Z"⟩, prog_14_method_31_code, 2, (some .boolean), 12, [1616, 141, 1615, 71], mc222)
def mc223 : List mI := [(0, .aload_n 0, []), (1, .invokevirtual 219, [224, 0, 1625, 0]), (4, .ifCond .ne 5, []), (7, .iconst 0, []), (8, .ireturn, []), (9, .aload_n 0, []), (10, .getfield 175, [12, 17, 1398, 0, 0]), (13, .iconst 4, []), (14, .if_icmp .ne 26, []), (17, .aload_n 0, []), (18, .invokevirtual 199, [215, 0, 1523, 0]), (21, .aload_n 0, []), (22, .invokevirtual 219, [224, 0, 1625, 0]), (25, .ifCond .ne 5, []), (28, .iconst 0, []), (29, .ireturn, []), (30, .aload_n 0, []), (31, .bipush 32, []), (33, .iconst 0, []), (34, .invokevirtual 212, [218, 2, 1617, 0]), (37, .goto (-28), []), (40, .iconst 1, []), (41, .ireturn, [])]
/-- IsHeInModel.any -/
def me223 : mM := (1, ⟨"IsHeInModel", "any", "()Z"⟩, prog_14_method_32_code, 1, (some .boolean), 12, [1624, 141, 1623, 73], mc223)
def mc224 : List mI := [(0, .aload_n 0, []), (1, .invokevirtual 222, [225, 0, 1629, 0]), (4, .ifCond .ne 5, []), (7, .iconst 0, []), (8, .ireturn, []), (9, .aload_n 0, []), (10, .getfield 175, [12, 17, 1398, 0, 0]), (13, .iconst 5, []), (14, .if_icmp .ne 26, []), (17, .aload_n 0, []), (18, .invokevirtual 199, [215, 0, 1523, 0]), (21, .aload_n 0, []), (22, .invokevirtual 222, [225, 0, 1629, 0]), (25, .ifCond .ne 5, []), (28, .iconst 0, []), (29, .ireturn, []), (30, .aload_n 0, []), (31, .bipush 31, []), (33, .iconst 0, []), (34, .invokevirtual 212, [218, 2, 1617, 0]), (37, .goto (-28), []), (40, .iconst 1, []), (41, .ireturn, [])]
/-- IsHeInModel.every -/
def me224 : mM := (1, ⟨"IsHeInModel", "every", "()Z"⟩, prog_14_method_33_code, 1, (some .boolean), 12, [1628, 141, 1627, 74], mc224)
def mc225 : List mI := [(0, .aload_n 0, []), (1, .getfield 175, [12, 17, 1398, 0, 0]), (4, .bipush 6, []), (6, .if_icmp .ne 38, []), (9, .aload_n 0, []), (10, .invokevirtual 225, [219, 0, 1633, 0]), (13, .ifCond .eq 10, []), (16, .aload_n 0, []), (17, .invokevirtual 222, [225, 0, 1629, 0]), (20, .ifCond .ne 5, []), (23, .iconst 0, []), (24, .ireturn, []), (25, .aload_n 0, []), (26, .dup, []), (27, .getfield 205, [12, 23, 1404, 0, 0]), (30, .iconst 1, []), (31, .isub, []), (32, .putfield 205, [12, 23, 1404, 0, 0]), (35, .aload_n 0, []), (36, .bipush 30, []), (38, .iconst 0, []), (39, .invokevirtual 212, [218, 2, 1617, 0]), (42, .iconst 1, []), (43, .ireturn, []), (44, .aload_n 0, []), (45, .getfield 175, [12, 17, 1398, 0, 0]), (48, .sipush 140, []), (51, .if_icmp .ne 41, []), (54, .aload_n 0, []), (55, .invokevirtual 225, [219, 0, 1633, 0]), (58, .ifCond .eq 20, []), (61, .aload_n 0, []), (62, .invokevirtual 228, [223, 0, 1621, 0]), (65, .ifCond .eq 13, []), (68, .aload_n 0, []), (69, .sipush 141, []), (72, .invokevirtual 231, [217, 1, 1637, 0]), (75, .ifCond .ne 5, []), (78, .iconst 0, []), (79, .ireturn, []), (80, .aload_n 0, []), (81, .dup, []), (82, .getfield 205, [12, 23, 1404, 0, 0]), (85, .iconst 1, []), (86, .isub, []), (87, .putfield 205, [12, 23, 1404, 0, 0]), (90, .iconst 1, []), (91, .ireturn, []), (92, .aload_n 0, []), (93, .invokevirtual 234, [220, 0, 1605, 0]), (96, .ifCond .ne 5, []), (99, .iconst 0, []), (100, .ireturn, []), (101, .aload_n 0, []), (102, .getfield 175, [12, 17, 1398, 0, 0]), (105, .sipush 160, []), (108, .if_icmp .ne 8, []), (111, .bipush 27, []), (113, .goto 34, []), (116, .aload_n 0, []), (117, .getfield 175, [12, 17, 1398, 0, 0]), (120, .sipush 161, []), (123, .if_icmp .ne 8, []), (126, .bipush 28, []), (128, .goto 19, []), (131, .aload_n 0, []), (132, .getfield 175, [12, 17, 1398, 0, 0]), (135, .sipush 162, []), (138, .if_icmp .ne 8, []), (141, .bipush 29, []), (143, .goto 4, []), (146, .iconst (-1), []), (147, .istore_n 1, []), (148, .iload_n 1, []), (149, .iconst (-1), []), (150, .if_icmp .ne 9, []), (153, .aload_n 0, []), (154, .iconst 1, []), (155, .invokevirtual 196, [216, 1, 1601, 0]), (158, .ireturn, []), (159, .aload_n 0, []), (160, .invokevirtual 199, [215, 0, 1523, 0]), (163, .aload_n 0, []), (164, .invokevirtual 234, [220, 0, 1605, 0]), (167, .ifCond .ne 5, []), (170, .iconst 0, []), (171, .ireturn, []), (172, .aload_n 0, []), (173, .iload_n 1, []), (174, .iconst 0, []), (175, .invokevirtual 212, [218, 2, 1617, 0]), (178, .iconst 1, []), (179, .ireturn, [])]
/-- IsHeInModel.oneTest -/
def me225 : mM := (1, ⟨"IsHeInModel", "oneTest", "()Z"⟩, prog_14_method_34_code, 2, (some .boolean), 12, [1632, 141, 1631, 75], mc225)
def mc226 : List mI := [(0, .aload_n 0, []), (1, .getfield 175, [12, 17, 1398, 0, 0]), (4, .bipush 20, []), (6, .bipush 25, []), (8, .invokestatic 63, [193, 3, 1500, 0]), (11, .ifCond .ne 9, []), (14, .aload_n 0, []), (15, .iconst 1, []), (16, .invokevirtual 196, [216, 1, 1601, 0]), (19, .ireturn, []), (20, .aload_n 0, []), (21, .getfield 237, [12, 12, 1393, 0, 0]), (24, .bipush 16, []), (26, .if_icmp .ne 9, []), (29, .aload_n 0, []), (30, .iconst 3, []), (31, .invokevirtual 196, [216, 1, 1601, 0]), (34, .ireturn, []), (35, .aload_n 0, []), (36, .iconst 0, []), (37, .putfield 205, [12, 23, 1404, 0, 0]), (40, .aload_n 0, []), (41, .getfield 19, [12, 5, 1386, 2, 1]), (44, .iconst 4, []), (45, .aload_n 0, []), (46, .getfield 237, [12, 12, 1393, 0, 0]), (49, .imul, []), (50, .iconst 3, []), (51, .iadd, []), (52, .aload_n 0, []), (53, .getfield 175, [12, 17, 1398, 0, 0]), (56, .iastore, []), (57, .aload_n 0, []), (58, .invokevirtual 199, [215, 0, 1523, 0]), (61, .aload_n 0, []), (62, .getfield 19, [12, 5, 1386, 2, 1]), (65, .iconst 4, []), (66, .aload_n 0, []), (67, .getfield 237, [12, 12, 1393, 0, 0]), (70, .imul, []), (71, .aload_n 0, []), (72, .getfield 202, [12, 13, 1394, 0, 0]), (75, .iastore, []), (76, .aload_n 0, []), (77, .invokevirtual 234, [220, 0, 1605, 0]), (80, .ifCond .ne 5, []), (83, .iconst 0, []), (84, .ireturn, []), (85, .aload_n 0, []), (86, .getfield 19, [12, 5, 1386, 2, 1]), (89, .iconst 4, []), (90, .aload_n 0, []), (91, .getfield 237, [12, 12, 1393, 0, 0]), (94, .imul, []), (95, .iconst 1, []), (96, .iadd, []), (97, .aload_n 0, []), (98, .getfield 202, [12, 13, 1394, 0, 0]), (101, .iastore, []), (102, .aload_n 0, []), (103, .getfield 175, [12, 17, 1398, 0, 0]), (106, .iconst 3, []), (107, .if_icmp .ne 16, []), (110, .aload_n 0, []), (111, .invokevirtual 199, [215, 0, 1523, 0]), (114, .aload_n 0, []), (115, .invokevirtual 228, [223, 0, 1621, 0]), (118, .ifCond .ne 5, []), (121, .iconst 0, []), (122, .ireturn, []), (123, .aload_n 0, []), (124, .getfield 19, [12, 5, 1386, 2, 1]), (127, .iconst 4, []), (128, .aload_n 0, []), (129, .getfield 237, [12, 12, 1393, 0, 0]), (132, .imul, []), (133, .iconst 2, []), (134, .iadd, []), (135, .aload_n 0, []), (136, .getfield 202, [12, 13, 1394, 0, 0]), (139, .iastore, []), (140, .aload_n 0, []), (141, .sipush 159, []), (144, .invokevirtual 231, [217, 1, 1637, 0]), (147, .ireturn, [])]
/-- IsHeInModel.aLine -/
def me226 : mM := (1, ⟨"IsHeInModel", "aLine", "()Z"⟩, prog_14_method_35_code, 1, (some .boolean), 12, [1600, 141, 1599, 67], mc226)
def mc227 : List mI := [(0, .aload_n 0, []), (1, .iconst 0, []), (2, .putfield 237, [12, 12, 1393, 0, 0]), (5, .aload_n 0, []), (6, .iconst 0, []), (7, .putfield 202, [12, 13, 1394, 0, 0]), (10, .iconst 1, []), (11, .istore_n 1, []), (12, .iload_n 1, []), (13, .ifCond .eq 36, []), (16, .aload_n 0, []), (17, .getfield 175, [12, 17, 1398, 0, 0]), (20, .ifCond .eq 29, []), (23, .aload_n 0, []), (24, .invokevirtual 240, [226, 0, 1597, 0]), (27, .istore_n 1, []), (28, .aload_n 0, []), (29, .dup, []), (30, .getfield 237, [12, 12, 1393, 0, 0]), (33, .iload_n 1, []), (34, .ifCond .eq 7, []), (37, .iconst 1, []), (38, .goto 4, []), (41, .iconst 0, []), (42, .iadd, []), (43, .putfield 237, [12, 12, 1393, 0, 0]), (46, .goto (-34), []), (49, .iload_n 1, []), (50, .ireturn, [])]
/-- IsHeInModel.readsLaw -/
def me227 : mM := (1, ⟨"IsHeInModel", "readsLaw", "()Z"⟩, prog_14_method_36_code, 2, (some .boolean), 12, [1596, 141, 1595, 66], mc227)
def mc228 : List mI := [(0, .aload_n 0, []), (1, .getfield 175, [12, 17, 1398, 0, 0]), (4, .iconst 2, []), (5, .if_icmp .eq 9, []), (8, .aload_n 0, []), (9, .iconst 1, []), (10, .invokevirtual 196, [216, 1, 1601, 0]), (13, .ireturn, []), (14, .aload_n 0, []), (15, .getfield 187, [12, 19, 1400, 0, 0]), (18, .iload_n 1, []), (19, .iload_n 2, []), (20, .invokestatic 63, [193, 3, 1500, 0]), (23, .ifCond .ne 9, []), (26, .aload_n 0, []), (27, .iconst 2, []), (28, .invokevirtual 196, [216, 1, 1601, 0]), (31, .ireturn, []), (32, .aload_n 0, []), (33, .aload_n 0, []), (34, .getfield 187, [12, 19, 1400, 0, 0]), (37, .putfield 243, [12, 25, 1406, 0, 0]), (40, .aload_n 0, []), (41, .invokevirtual 199, [215, 0, 1523, 0]), (44, .iconst 1, []), (45, .ireturn, [])]
/-- IsHeInModel.number -/
def me228 : mM := (1, ⟨"IsHeInModel", "number", "(II)Z"⟩, prog_14_method_37_code, 3, (some .boolean), 12, [1656, 141, 1655, 81], mc228)
def mc229 : List mI := [(0, .aload_n 0, []), (1, .iload_n 2, []), (2, .invokevirtual 231, [217, 1, 1637, 0]), (5, .ifCond .eq 13, []), (8, .aload_n 0, []), (9, .iload_n 3, []), (10, .iload 4, []), (12, .invokevirtual 246, [228, 2, 1653, 0]), (15, .ifCond .ne 5, []), (18, .iconst 0, []), (19, .ireturn, []), (20, .aload_n 0, []), (21, .getfield 25, [12, 7, 1388, 2, 1]), (24, .iload_n 1, []), (25, .aload_n 0, []), (26, .getfield 243, [12, 25, 1406, 0, 0]), (29, .iastore, []), (30, .iconst 1, []), (31, .ireturn, [])]
/-- IsHeInModel.told -/
def me229 : mM := (1, ⟨"IsHeInModel", "told", "(IIII)Z"⟩, prog_14_method_38_code, 5, (some .boolean), 12, [1652, 141, 1651, 80], mc229)
def mc230 : List mI := [(0, .aload_n 0, []), (1, .bipush 7, []), (3, .invokevirtual 231, [217, 1, 1637, 0]), (6, .ifCond .eq 57, []), (9, .aload_n 0, []), (10, .iconst 2, []), (11, .aload_n 0, []), (12, .getfield 250, [12, 14, 1395, 0, 0]), (15, .imul, []), (16, .bipush 8, []), (18, .iconst 1, []), (19, .sipush 999, []), (22, .invokevirtual 253, [229, 4, 1649, 0]), (25, .ifCond .eq 38, []), (28, .aload_n 0, []), (29, .iconst 2, []), (30, .aload_n 0, []), (31, .getfield 250, [12, 14, 1395, 0, 0]), (34, .imul, []), (35, .iconst 1, []), (36, .iadd, []), (37, .bipush 9, []), (39, .iconst 1, []), (40, .sipush 999, []), (43, .invokevirtual 253, [229, 4, 1649, 0]), (46, .ifCond .eq 17, []), (49, .aload_n 0, []), (50, .sipush 159, []), (53, .invokevirtual 231, [217, 1, 1637, 0]), (56, .ifCond .eq 7, []), (59, .iconst 1, []), (60, .goto 4, []), (63, .iconst 0, []), (64, .ireturn, [])]
/-- IsHeInModel.aSign -/
def me230 : mM := (1, ⟨"IsHeInModel", "aSign", "()Z"⟩, prog_14_method_39_code, 1, (some .boolean), 12, [1648, 141, 1647, 79], mc230)
def mc231 : List mI := [(0, .aload_n 0, []), (1, .iconst 4, []), (2, .aload_n 0, []), (3, .getfield 250, [12, 14, 1395, 0, 0]), (6, .imul, []), (7, .bipush 10, []), (9, .iconst 0, []), (10, .iconst 3, []), (11, .invokevirtual 253, [229, 4, 1649, 0]), (14, .ifCond .eq 76, []), (17, .aload_n 0, []), (18, .iconst 4, []), (19, .aload_n 0, []), (20, .getfield 250, [12, 14, 1395, 0, 0]), (23, .imul, []), (24, .iconst 1, []), (25, .iadd, []), (26, .bipush 11, []), (28, .iconst 0, []), (29, .bipush 23, []), (31, .invokevirtual 253, [229, 4, 1649, 0]), (34, .ifCond .eq 56, []), (37, .aload_n 0, []), (38, .iconst 4, []), (39, .aload_n 0, []), (40, .getfield 250, [12, 14, 1395, 0, 0]), (43, .imul, []), (44, .iconst 2, []), (45, .iadd, []), (46, .bipush 12, []), (48, .iconst 1, []), (49, .bipush 24, []), (51, .invokevirtual 253, [229, 4, 1649, 0]), (54, .ifCond .eq 36, []), (57, .aload_n 0, []), (58, .iconst 4, []), (59, .aload_n 0, []), (60, .getfield 250, [12, 14, 1395, 0, 0]), (63, .imul, []), (64, .iconst 3, []), (65, .iadd, []), (66, .bipush 13, []), (68, .iconst 0, []), (69, .iconst 1, []), (70, .invokevirtual 253, [229, 4, 1649, 0]), (73, .ifCond .eq 17, []), (76, .aload_n 0, []), (77, .sipush 159, []), (80, .invokevirtual 231, [217, 1, 1637, 0]), (83, .ifCond .eq 7, []), (86, .iconst 1, []), (87, .goto 4, []), (90, .iconst 0, []), (91, .ireturn, [])]
/-- IsHeInModel.aShift -/
def me231 : mM := (1, ⟨"IsHeInModel", "aShift", "()Z"⟩, prog_14_method_40_code, 1, (some .boolean), 12, [1660, 141, 1659, 82], mc231)
def mc232 : List mI := [(0, .aload_n 0, []), (1, .iconst 0, []), (2, .putfield 250, [12, 14, 1395, 0, 0]), (5, .iconst 1, []), (6, .istore_n 1, []), (7, .iload_n 1, []), (8, .ifCond .eq 107, []), (11, .aload_n 0, []), (12, .getfield 175, [12, 17, 1398, 0, 0]), (15, .ifCond .eq 100, []), (18, .aload_n 0, []), (19, .getfield 175, [12, 17, 1398, 0, 0]), (22, .aload_n 0, []), (23, .getfield 159, [12, 11, 1392, 0, 0]), (26, .iconst 1, []), (27, .if_icmp .ne 8, []), (30, .bipush 7, []), (32, .goto 5, []), (35, .bipush 10, []), (37, .if_icmp .eq 9, []), (40, .aload_n 0, []), (41, .iconst 1, []), (42, .invokevirtual 196, [216, 1, 1601, 0]), (45, .ireturn, []), (46, .aload_n 0, []), (47, .getfield 250, [12, 14, 1395, 0, 0]), (50, .aload_n 0, []), (51, .getfield 159, [12, 11, 1392, 0, 0]), (54, .iconst 1, []), (55, .if_icmp .ne 8, []), (58, .bipush 6, []), (60, .goto 5, []), (63, .bipush 12, []), (65, .if_icmp .ne 9, []), (68, .aload_n 0, []), (69, .iconst 3, []), (70, .invokevirtual 196, [216, 1, 1601, 0]), (73, .ireturn, []), (74, .aload_n 0, []), (75, .getfield 159, [12, 11, 1392, 0, 0]), (78, .iconst 1, []), (79, .if_icmp .ne 10, []), (82, .aload_n 0, []), (83, .invokevirtual 257, [230, 0, 1645, 0]), (86, .goto 7, []), (89, .aload_n 0, []), (90, .invokevirtual 260, [231, 0, 1657, 0]), (93, .istore_n 1, []), (94, .aload_n 0, []), (95, .dup, []), (96, .getfield 250, [12, 14, 1395, 0, 0]), (99, .iload_n 1, []), (100, .ifCond .eq 7, []), (103, .iconst 1, []), (104, .goto 4, []), (107, .iconst 0, []), (108, .iadd, []), (109, .putfield 250, [12, 14, 1395, 0, 0]), (112, .goto (-105), []), (115, .iload_n 1, []), (116, .ireturn, [])]
/-- IsHeInModel.readsRows -/
def me232 : mM := (1, ⟨"IsHeInModel", "readsRows", "()Z"⟩, prog_14_method_41_code, 2, (some .boolean), 12, [1644, 141, 1643, 78], mc232)
def mc233 : List mI := [(0, .aload_n 0, []), (1, .getfield 7, [12, 0, 1381, 2, 1]), (4, .bipush 117, []), (6, .aload_n 0, []), (7, .getfield 237, [12, 12, 1393, 0, 0]), (10, .iastore, []), (11, .iconst 0, []), (12, .istore_n 1, []), (13, .iload_n 1, []), (14, .aload_n 0, []), (15, .getfield 237, [12, 12, 1393, 0, 0]), (18, .if_icmp .ge 87, []), (21, .aload_n 0, []), (22, .getfield 7, [12, 0, 1381, 2, 1]), (25, .sipush 985, []), (28, .iload_n 1, []), (29, .iadd, []), (30, .aload_n 0, []), (31, .getfield 19, [12, 5, 1386, 2, 1]), (34, .iconst 4, []), (35, .iload_n 1, []), (36, .imul, []), (37, .iaload, []), (38, .iastore, []), (39, .aload_n 0, []), (40, .getfield 7, [12, 0, 1381, 2, 1]), (43, .sipush 1001, []), (46, .iload_n 1, []), (47, .iadd, []), (48, .aload_n 0, []), (49, .getfield 19, [12, 5, 1386, 2, 1]), (52, .iconst 4, []), (53, .iload_n 1, []), (54, .imul, []), (55, .iconst 1, []), (56, .iadd, []), (57, .iaload, []), (58, .iastore, []), (59, .aload_n 0, []), (60, .getfield 7, [12, 0, 1381, 2, 1]), (63, .sipush 1017, []), (66, .iload_n 1, []), (67, .iadd, []), (68, .aload_n 0, []), (69, .getfield 19, [12, 5, 1386, 2, 1]), (72, .iconst 4, []), (73, .iload_n 1, []), (74, .imul, []), (75, .iconst 2, []), (76, .iadd, []), (77, .iaload, []), (78, .iastore, []), (79, .aload_n 0, []), (80, .getfield 7, [12, 0, 1381, 2, 1]), (83, .sipush 1033, []), (86, .iload_n 1, []), (87, .iadd, []), (88, .aload_n 0, []), (89, .getfield 19, [12, 5, 1386, 2, 1]), (92, .iconst 4, []), (93, .iload_n 1, []), (94, .imul, []), (95, .iconst 3, []), (96, .iadd, []), (97, .iaload, []), (98, .iastore, []), (99, .iinc 1 1, []), (102, .goto (-89), []), (105, .iconst 0, []), (106, .istore_n 1, []), (107, .iload_n 1, []), (108, .iconst 2, []), (109, .aload_n 0, []), (110, .getfield 202, [12, 13, 1394, 0, 0]), (113, .imul, []), (114, .if_icmp .ge 25, []), (117, .aload_n 0, []), (118, .getfield 7, [12, 0, 1381, 2, 1]), (121, .sipush 1050, []), (124, .iload_n 1, []), (125, .iadd, []), (126, .aload_n 0, []), (127, .getfield 22, [12, 6, 1387, 2, 1]), (130, .iload_n 1, []), (131, .iaload, []), (132, .iastore, []), (133, .iinc 1 1, []), (136, .goto (-29), []), (139, .aload_n 0, []), (140, .getfield 237, [12, 12, 1393, 0, 0]), (143, .ireturn, [])]
/-- IsHeInModel.putsLaw -/
def me233 : mM := (1, ⟨"IsHeInModel", "putsLaw", "()I"⟩, prog_14_method_42_code, 2, (some .int), 12, [1664, 141, 1663, 83], mc233)
def mc234 : List mI := [(0, .aload_n 0, []), (1, .getfield 7, [12, 0, 1381, 2, 1]), (4, .bipush 115, []), (6, .aload_n 0, []), (7, .getfield 250, [12, 14, 1395, 0, 0]), (10, .iastore, []), (11, .iconst 0, []), (12, .istore_n 1, []), (13, .iload_n 1, []), (14, .iconst 2, []), (15, .aload_n 0, []), (16, .getfield 250, [12, 14, 1395, 0, 0]), (19, .imul, []), (20, .if_icmp .ge 25, []), (23, .aload_n 0, []), (24, .getfield 7, [12, 0, 1381, 2, 1]), (27, .sipush 143, []), (30, .iload_n 1, []), (31, .iadd, []), (32, .aload_n 0, []), (33, .getfield 25, [12, 7, 1388, 2, 1]), (36, .iload_n 1, []), (37, .iaload, []), (38, .iastore, []), (39, .iinc 1 1, []), (42, .goto (-29), []), (45, .iconst 0, []), (46, .istore_n 1, []), (47, .iload_n 1, []), (48, .bipush 72, []), (50, .if_icmp .ge 19, []), (53, .aload_n 0, []), (54, .getfield 7, [12, 0, 1381, 2, 1]), (57, .bipush 39, []), (59, .iload_n 1, []), (60, .iadd, []), (61, .iconst (-1), []), (62, .iastore, []), (63, .iinc 1 1, []), (66, .goto (-19), []), (69, .aload_n 0, []), (70, .invokevirtual 70, [198, 0, 1492, 0]), (73, .aload_n 0, []), (74, .getfield 250, [12, 14, 1395, 0, 0]), (77, .ireturn, [])]
/-- IsHeInModel.putsSigns -/
def me234 : mM := (1, ⟨"IsHeInModel", "putsSigns", "()I"⟩, prog_14_method_43_code, 2, (some .int), 12, [1668, 141, 1667, 84], mc234)
def mc235 : List mI := [(0, .aload_n 0, []), (1, .getfield 7, [12, 0, 1381, 2, 1]), (4, .bipush 116, []), (6, .aload_n 0, []), (7, .getfield 250, [12, 14, 1395, 0, 0]), (10, .iastore, []), (11, .iconst 0, []), (12, .istore_n 1, []), (13, .iload_n 1, []), (14, .iconst 4, []), (15, .aload_n 0, []), (16, .getfield 250, [12, 14, 1395, 0, 0]), (19, .imul, []), (20, .if_icmp .ge 25, []), (23, .aload_n 0, []), (24, .getfield 7, [12, 0, 1381, 2, 1]), (27, .sipush 155, []), (30, .iload_n 1, []), (31, .iadd, []), (32, .aload_n 0, []), (33, .getfield 25, [12, 7, 1388, 2, 1]), (36, .iload_n 1, []), (37, .iaload, []), (38, .iastore, []), (39, .iinc 1 1, []), (42, .goto (-29), []), (45, .aload_n 0, []), (46, .invokevirtual 70, [198, 0, 1492, 0]), (49, .aload_n 0, []), (50, .getfield 250, [12, 14, 1395, 0, 0]), (53, .ireturn, [])]
/-- IsHeInModel.putsShifts -/
def me235 : mM := (1, ⟨"IsHeInModel", "putsShifts", "()I"⟩, prog_14_method_44_code, 2, (some .int), 12, [1672, 141, 1671, 85], mc235)
def mc236 : List mI := [(0, .aload_n 0, []), (1, .iconst 0, []), (2, .putfield 263, [12, 22, 1403, 0, 0]), (5, .aload_n 0, []), (6, .iconst (-1), []), (7, .putfield 37, [12, 24, 1405, 0, 0]), (10, .iload_n 1, []), (11, .iconst 0, []), (12, .iconst 2, []), (13, .invokestatic 63, [193, 3, 1500, 0]), (16, .ifCond .ne 10, []), (19, .aload_n 0, []), (20, .iconst 0, []), (21, .putfield 79, [12, 15, 1396, 0, 0]), (24, .iconst (-1), []), (25, .ireturn, []), (26, .aload_n 0, []), (27, .iconst 0, []), (28, .putfield 190, [12, 20, 1401, 0, 0]), (31, .aload_n 0, []), (32, .iconst 0, []), (33, .putfield 82, [12, 16, 1397, 0, 0]), (36, .aload_n 0, []), (37, .iload_n 1, []), (38, .putfield 159, [12, 11, 1392, 0, 0]), (41, .aload_n 0, []), (42, .invokevirtual 199, [215, 0, 1523, 0]), (45, .iload_n 1, []), (46, .ifCond .ne 10, []), (49, .aload_n 0, []), (50, .invokevirtual 266, [227, 0, 1593, 0]), (53, .goto 7, []), (56, .aload_n 0, []), (57, .invokevirtual 269, [232, 0, 1641, 0]), (60, .istore_n 2, []), (61, .aload_n 0, []), (62, .iconst 0, []), (63, .putfield 79, [12, 15, 1396, 0, 0]), (66, .iload_n 2, []), (67, .ifCond .eq 31, []), (70, .iload_n 1, []), (71, .ifCond .ne 10, []), (74, .aload_n 0, []), (75, .invokevirtual 272, [233, 0, 1661, 0]), (78, .goto 19, []), (81, .iload_n 1, []), (82, .iconst 1, []), (83, .if_icmp .ne 10, []), (86, .aload_n 0, []), (87, .invokevirtual 275, [234, 0, 1665, 0]), (90, .goto 7, []), (93, .aload_n 0, []), (94, .invokevirtual 278, [235, 0, 1669, 0]), (97, .ireturn, []), (98, .aload_n 0, []), (99, .aload_n 0, []), (100, .getfield 190, [12, 20, 1401, 0, 0]), (103, .putfield 263, [12, 22, 1403, 0, 0]), (106, .aload_n 0, []), (107, .aload_n 0, []), (108, .getfield 193, [12, 21, 1402, 0, 0]), (111, .putfield 37, [12, 24, 1405, 0, 0]), (114, .iconst (-1), []), (115, .ireturn, [])]
/-- IsHeInModel.text -/
def me236 : mM := (1, ⟨"IsHeInModel", "text", "(I)I"⟩, prog_14_method_45_code, 3, (some .int), 12, [1522, 141, 1520, 1521], mc236)
def mc237 : List mI := [(0, .iload_n 1, []), (1, .ifCond .ne 10, []), (4, .aload_n 0, []), (5, .getfield 263, [12, 22, 1403, 0, 0]), (8, .goto 16, []), (11, .iload_n 1, []), (12, .iconst 1, []), (13, .if_icmp .ne 10, []), (16, .aload_n 0, []), (17, .getfield 37, [12, 24, 1405, 0, 0]), (20, .goto 4, []), (23, .iconst (-1), []), (24, .ireturn, [])]
/-- IsHeInModel.fault -/
def me237 : mM := (1, ⟨"IsHeInModel", "fault", "(I)I"⟩, prog_14_method_46_code, 2, (some .int), 12, [1676, 141, 1674, 1675], mc237)
def mc238 : List mI := [(0, .iload_n 0, []), (1, .tableswitch 100 23 31 #[51, 55, 59, 100, 63, 74, 85, 100, 96], [51]), (52, .iload_n 1, []), (53, .iload_n 2, []), (54, .iadd, []), (55, .ireturn, []), (56, .iload_n 1, []), (57, .iload_n 2, []), (58, .isub, []), (59, .ireturn, []), (60, .iload_n 1, []), (61, .iload_n 2, []), (62, .imul, []), (63, .ireturn, []), (64, .iload_n 1, []), (65, .iload_n 2, []), (66, .if_icmp .ge 7, []), (69, .iconst 1, []), (70, .goto 4, []), (73, .iconst 0, []), (74, .ireturn, []), (75, .iload_n 1, []), (76, .iload_n 2, []), (77, .if_icmp .ne 7, []), (80, .iconst 1, []), (81, .goto 4, []), (84, .iconst 0, []), (85, .ireturn, []), (86, .iload_n 1, []), (87, .iload_n 2, []), (88, .if_icmp .le 7, []), (91, .iconst 1, []), (92, .goto 4, []), (95, .iconst 0, []), (96, .ireturn, []), (97, .iload_n 1, []), (98, .iload_n 2, []), (99, .iand, []), (100, .ireturn, []), (101, .iload_n 1, []), (102, .iload_n 2, []), (103, .ior, []), (104, .ireturn, [])]
/-- IsHeInModel.both -/
def me238 : mM := (0, ⟨"IsHeInModel", "both", "(III)I"⟩, prog_14_method_47_code, 3, (some .int), 12, [1719, 141, 1718, 0], mc238)
def mc239 : List mI := [(0, .iconst 0, []), (1, .istore 4, []), (3, .iload_n 2, []), (4, .istore 5, []), (6, .iload 5, []), (8, .iload_n 3, []), (9, .if_icmp .ge 177, []), (12, .aload_n 0, []), (13, .getfield 7, [12, 0, 1381, 2, 1]), (16, .sipush 1050, []), (19, .sipush 820, []), (22, .iload_n 1, []), (23, .imul, []), (24, .iadd, []), (25, .iconst 2, []), (26, .iload 5, []), (28, .imul, []), (29, .iadd, []), (30, .iaload, []), (31, .istore 6, []), (33, .aload_n 0, []), (34, .getfield 7, [12, 0, 1381, 2, 1]), (37, .sipush 1050, []), (40, .sipush 820, []), (43, .iload_n 1, []), (44, .imul, []), (45, .iadd, []), (46, .iconst 2, []), (47, .iload 5, []), (49, .imul, []), (50, .iadd, []), (51, .iconst 1, []), (52, .iadd, []), (53, .iaload, []), (54, .istore 7, []), (56, .iload 6, []), (58, .bipush 23, []), (60, .if_icmp .ge 33, []), (63, .aload_n 0, []), (64, .getfield 31, [12, 9, 1390, 2, 1]), (67, .iload 4, []), (69, .iload 6, []), (71, .ifCond .ne 8, []), (74, .iload 7, []), (76, .goto 10, []), (79, .aload_n 0, []), (80, .getfield 34, [12, 10, 1391, 2, 1]), (83, .iload 6, []), (85, .iaload, []), (86, .iastore, []), (87, .iinc 4 1, []), (90, .goto 90, []), (93, .iload 6, []), (95, .bipush 26, []), (97, .if_icmp .ne 20, []), (100, .aload_n 0, []), (101, .getfield 31, [12, 9, 1390, 2, 1]), (104, .iload 4, []), (106, .iconst 1, []), (107, .isub, []), (108, .dup2, []), (109, .iaload, []), (110, .iload 7, []), (112, .idiv, []), (113, .iastore, []), (114, .goto 66, []), (117, .iload 6, []), (119, .bipush 30, []), (121, .if_icmp .ne 26, []), (124, .aload_n 0, []), (125, .getfield 31, [12, 9, 1390, 2, 1]), (128, .iload 4, []), (130, .iconst 1, []), (131, .isub, []), (132, .iconst 1, []), (133, .aload_n 0, []), (134, .getfield 31, [12, 9, 1390, 2, 1]), (137, .iload 4, []), (139, .iconst 1, []), (140, .isub, []), (141, .iaload, []), (142, .isub, []), (143, .iastore, []), (144, .goto 36, []), (147, .iinc 4 (-1), []), (150, .aload_n 0, []), (151, .getfield 31, [12, 9, 1390, 2, 1]), (154, .iload 4, []), (156, .iconst 1, []), (157, .isub, []), (158, .iload 6, []), (160, .aload_n 0, []), (161, .getfield 31, [12, 9, 1390, 2, 1]), (164, .iload 4, []), (166, .iconst 1, []), (167, .isub, []), (168, .iaload, []), (169, .aload_n 0, []), (170, .getfield 31, [12, 9, 1390, 2, 1]), (173, .iload 4, []), (175, .iaload, []), (176, .invokestatic 281, [238, 3, 1717, 0]), (179, .iastore, []), (180, .iinc 5 1, []), (183, .goto (-177), []), (186, .aload_n 0, []), (187, .getfield 31, [12, 9, 1390, 2, 1]), (190, .iconst 0, []), (191, .iaload, []), (192, .ireturn, [])]
/-- IsHeInModel.comesTo -/
def me239 : mM := (1, ⟨"IsHeInModel", "comesTo", "(III)I"⟩, prog_14_method_48_code, 8, (some .int), 12, [1716, 141, 1715, 93], mc239)
def mc240 : List mI := [(0, .aload_n 0, []), (1, .getfield 7, [12, 0, 1381, 2, 1]), (4, .sipush 1017, []), (7, .iload_n 1, []), (8, .iadd, []), (9, .iaload, []), (10, .aload_n 0, []), (11, .getfield 7, [12, 0, 1381, 2, 1]), (14, .sipush 1001, []), (17, .iload_n 1, []), (18, .iadd, []), (19, .iaload, []), (20, .if_icmp .eq 32, []), (23, .aload_n 0, []), (24, .iconst 0, []), (25, .aload_n 0, []), (26, .getfield 7, [12, 0, 1381, 2, 1]), (29, .sipush 1001, []), (32, .iload_n 1, []), (33, .iadd, []), (34, .iaload, []), (35, .aload_n 0, []), (36, .getfield 7, [12, 0, 1381, 2, 1]), (39, .sipush 1017, []), (42, .iload_n 1, []), (43, .iadd, []), (44, .iaload, []), (45, .invokevirtual 285, [239, 3, 1713, 0]), (48, .iconst 1, []), (49, .if_icmp .ne 7, []), (52, .iconst 1, []), (53, .goto 4, []), (56, .iconst 0, []), (57, .ireturn, [])]
/-- IsHeInModel.isSo -/
def me240 : mM := (1, ⟨"IsHeInModel", "isSo", "(I)Z"⟩, prog_14_method_49_code, 2, (some .boolean), 12, [1712, 141, 1711, 92], mc240)
def mc241 : List mI := [(0, .aload_n 0, []), (1, .getfield 7, [12, 0, 1381, 2, 1]), (4, .bipush 15, []), (6, .iload_n 1, []), (7, .iadd, []), (8, .iaload, []), (9, .iconst (-1), []), (10, .if_icmp .eq 7, []), (13, .iconst 1, []), (14, .goto 4, []), (17, .iconst 0, []), (18, .ireturn, [])]
/-- IsHeInModel.isOnBoard -/
def me241 : mM := (1, ⟨"IsHeInModel", "isOnBoard", "(I)Z"⟩, prog_14_method_50_code, 2, (some .boolean), 12, [1708, 141, 1707, 91], mc241)
def mc242 : List mI := [(0, .iload_n 1, []), (1, .tableswitch 52 20 24 #[35, 38, 42, 46, 48], [35]), (36, .bipush 100, []), (38, .ireturn, []), (39, .sipush 200, []), (42, .ireturn, []), (43, .sipush 300, []), (46, .ireturn, []), (47, .iconst 0, []), (48, .ireturn, []), (49, .sipush 500, []), (52, .ireturn, []), (53, .aload_n 0, []), (54, .iload_n 2, []), (55, .invokevirtual 288, [241, 1, 1705, 0]), (58, .ifCond .eq 8, []), (61, .bipush 100, []), (63, .goto 6, []), (66, .sipush 900, []), (69, .ireturn, [])]
/-- IsHeInModel.without -/
def me242 : mM := (1, ⟨"IsHeInModel", "without", "(II)I"⟩, prog_14_method_51_code, 3, (some .int), 12, [1729, 141, 1728, 94], mc242)
def mc243 : List mI := [(0, .aload_n 0, []), (1, .getfield 34, [12, 10, 1391, 2, 1]), (4, .iconst 1, []), (5, .iload_n 2, []), (6, .iastore, []), (7, .aload_n 0, []), (8, .getfield 34, [12, 10, 1391, 2, 1]), (11, .iconst 2, []), (12, .aload_n 0, []), (13, .getfield 7, [12, 0, 1381, 2, 1]), (16, .bipush 119, []), (18, .iload_n 2, []), (19, .iadd, []), (20, .iaload, []), (21, .iastore, []), (22, .aload_n 0, []), (23, .getfield 34, [12, 10, 1391, 2, 1]), (26, .iconst 3, []), (27, .aload_n 0, []), (28, .getfield 7, [12, 0, 1381, 2, 1]), (31, .sipush 131, []), (34, .iload_n 2, []), (35, .iadd, []), (36, .iaload, []), (37, .iastore, []), (38, .aload_n 0, []), (39, .getfield 34, [12, 10, 1391, 2, 1]), (42, .iconst 4, []), (43, .iload_n 3, []), (44, .bipush 24, []), (46, .irem, []), (47, .iastore, []), (48, .aload_n 0, []), (49, .getfield 34, [12, 10, 1391, 2, 1]), (52, .iconst 5, []), (53, .iload_n 3, []), (54, .bipush 24, []), (56, .idiv, []), (57, .iastore, []), (58, .aload_n 0, []), (59, .getfield 34, [12, 10, 1391, 2, 1]), (62, .bipush 6, []), (64, .iload 4, []), (66, .iastore, []), (67, .aload_n 0, []), (68, .getfield 34, [12, 10, 1391, 2, 1]), (71, .bipush 7, []), (73, .aload_n 0, []), (74, .getfield 7, [12, 0, 1381, 2, 1]), (77, .bipush 114, []), (79, .iaload, []), (80, .iastore, []), (81, .aload_n 0, []), (82, .getfield 34, [12, 10, 1391, 2, 1]), (85, .bipush 8, []), (87, .aload_n 0, []), (88, .iload_n 2, []), (89, .invokevirtual 288, [241, 1, 1705, 0]), (92, .ifCond .eq 7, []), (95, .iconst 1, []), (96, .goto 4, []), (99, .iconst 0, []), (100, .iastore, []), (101, .aload_n 0, []), (102, .getfield 34, [12, 10, 1391, 2, 1]), (105, .bipush 9, []), (107, .iload 5, []), (109, .iastore, []), (110, .iconst 0, []), (111, .istore 6, []), (113, .iload 6, []), (115, .aload_n 0, []), (116, .getfield 7, [12, 0, 1381, 2, 1]), (119, .bipush 117, []), (121, .iaload, []), (122, .if_icmp .ge 71, []), (125, .aload_n 0, []), (126, .getfield 7, [12, 0, 1381, 2, 1]), (129, .sipush 1033, []), (132, .iload 6, []), (134, .iadd, []), (135, .iaload, []), (136, .iload_n 1, []), (137, .if_icmp .ne 50, []), (140, .aload_n 0, []), (141, .iload 6, []), (143, .invokevirtual 291, [240, 1, 1709, 0]), (146, .ifCond .eq 41, []), (149, .iconst 0, []), (150, .sipush 1000, []), (153, .aload_n 0, []), (154, .iconst 0, []), (155, .aload_n 0, []), (156, .getfield 7, [12, 0, 1381, 2, 1]), (159, .sipush 985, []), (162, .iload 6, []), (164, .iadd, []), (165, .iaload, []), (166, .aload_n 0, []), (167, .getfield 7, [12, 0, 1381, 2, 1]), (170, .sipush 1001, []), (173, .iload 6, []), (175, .iadd, []), (176, .iaload, []), (177, .invokevirtual 285, [239, 3, 1713, 0]), (180, .invokestatic 294, [194, 2, 1720, 0]), (183, .invokestatic 298, [195, 2, 1723, 0]), (186, .ireturn, []), (187, .iinc 6 1, []), (190, .goto (-77), []), (193, .aload_n 0, []), (194, .iload_n 1, []), (195, .iload_n 2, []), (196, .invokevirtual 301, [242, 2, 1726, 0]), (199, .ireturn, [])]
/-- IsHeInModel.saysIn -/
def me243 : mM := (1, ⟨"IsHeInModel", "saysIn", "(IIIII)I"⟩, prog_14_method_52_code, 7, (some .int), 12, [1704, 141, 1703, 90], mc243)
def mc244 : List mI := [(0, .aload_n 0, []), (1, .iload_n 1, []), (2, .iload_n 2, []), (3, .aload_n 0, []), (4, .getfield 7, [12, 0, 1381, 2, 1]), (7, .iconst 0, []), (8, .iaload, []), (9, .aload_n 0, []), (10, .getfield 7, [12, 0, 1381, 2, 1]), (13, .bipush 113, []), (15, .iaload, []), (16, .aload_n 0, []), (17, .getfield 7, [12, 0, 1381, 2, 1]), (20, .bipush 27, []), (22, .iload_n 2, []), (23, .iadd, []), (24, .iaload, []), (25, .invokevirtual 304, [243, 5, 1701, 0]), (28, .ireturn, [])]
/-- IsHeInModel.saysNow -/
def me244 : mM := (1, ⟨"IsHeInModel", "saysNow", "(II)I"⟩, prog_14_method_53_code, 3, (some .int), 12, [1700, 141, 1699, 89], mc244)
def mc245 : List mI := [(0, .aload_n 0, []), (1, .getfield 67, [12, 3, 1384, 0, 0]), (4, .bipush 6, []), (6, .if_icmp .ne 43, []), (9, .iconst 0, []), (10, .istore_n 1, []), (11, .iload_n 1, []), (12, .sipush 560, []), (15, .if_icmp .ge 24, []), (18, .aload_n 0, []), (19, .getfield 16, [12, 2, 1383, 2, 1]), (22, .iload_n 1, []), (23, .aload_n 0, []), (24, .getfield 16, [12, 2, 1383, 2, 1]), (27, .iload_n 1, []), (28, .bipush 112, []), (30, .iadd, []), (31, .iaload, []), (32, .iastore, []), (33, .iinc 1 1, []), (36, .goto (-25), []), (39, .aload_n 0, []), (40, .dup, []), (41, .getfield 67, [12, 3, 1384, 0, 0]), (44, .iconst 1, []), (45, .isub, []), (46, .putfield 67, [12, 3, 1384, 0, 0]), (49, .iconst 0, []), (50, .istore_n 1, []), (51, .iload_n 1, []), (52, .bipush 112, []), (54, .if_icmp .ge 29, []), (57, .aload_n 0, []), (58, .getfield 16, [12, 2, 1383, 2, 1]), (61, .bipush 112, []), (63, .aload_n 0, []), (64, .getfield 67, [12, 3, 1384, 0, 0]), (67, .imul, []), (68, .iload_n 1, []), (69, .iadd, []), (70, .aload_n 0, []), (71, .getfield 7, [12, 0, 1381, 2, 1]), (74, .iload_n 1, []), (75, .iaload, []), (76, .iastore, []), (77, .iinc 1 1, []), (80, .goto (-29), []), (83, .aload_n 0, []), (84, .dup, []), (85, .getfield 67, [12, 3, 1384, 0, 0]), (88, .iconst 1, []), (89, .iadd, []), (90, .putfield 67, [12, 3, 1384, 0, 0]), (93, .return_, [])]
/-- IsHeInModel.keeps -/
def me245 : mM := (1, ⟨"IsHeInModel", "keeps", "()V"⟩, prog_14_method_54_code, 2, none, 12, [1688, 141, 1687, 86], mc245)
def mc246 : List mI := [(0, .aload_n 0, []), (1, .getfield 67, [12, 3, 1384, 0, 0]), (4, .ifCond .ne 5, []), (7, .iconst 0, []), (8, .ireturn, []), (9, .aload_n 0, []), (10, .dup, []), (11, .getfield 67, [12, 3, 1384, 0, 0]), (14, .iconst 1, []), (15, .isub, []), (16, .putfield 67, [12, 3, 1384, 0, 0]), (19, .iconst 0, []), (20, .istore_n 1, []), (21, .iload_n 1, []), (22, .bipush 112, []), (24, .if_icmp .ge 29, []), (27, .aload_n 0, []), (28, .getfield 7, [12, 0, 1381, 2, 1]), (31, .iload_n 1, []), (32, .aload_n 0, []), (33, .getfield 16, [12, 2, 1383, 2, 1]), (36, .bipush 112, []), (38, .aload_n 0, []), (39, .getfield 67, [12, 3, 1384, 0, 0]), (42, .imul, []), (43, .iload_n 1, []), (44, .iadd, []), (45, .iaload, []), (46, .iastore, []), (47, .iinc 1 1, []), (50, .goto (-29), []), (53, .iconst 1, []), (54, .ireturn, [])]
/-- IsHeInModel.undo -/
def me246 : mM := (1, ⟨"IsHeInModel", "undo", "()Z"⟩, prog_14_method_55_code, 2, (some .boolean), 12, [1680, 141, 1678, 1679], mc246)
def mc247 : List mI := [(0, .aload_n 0, []), (1, .getfield 7, [12, 0, 1381, 2, 1]), (4, .iconst 2, []), (5, .iaload, []), (6, .sipush 150, []), (9, .if_icmp .ne 4, []), (12, .return_, []), (13, .sipush 235, []), (16, .iconst 5, []), (17, .aload_n 0, []), (18, .getfield 7, [12, 0, 1381, 2, 1]), (21, .iconst 2, []), (22, .iaload, []), (23, .imul, []), (24, .iadd, []), (25, .istore 5, []), (27, .aload_n 0, []), (28, .getfield 7, [12, 0, 1381, 2, 1]), (31, .iload 5, []), (33, .aload_n 0, []), (34, .getfield 7, [12, 0, 1381, 2, 1]), (37, .iconst 0, []), (38, .iaload, []), (39, .iastore, []), (40, .aload_n 0, []), (41, .getfield 7, [12, 0, 1381, 2, 1]), (44, .iload 5, []), (46, .iconst 1, []), (47, .iadd, []), (48, .iload_n 1, []), (49, .iastore, []), (50, .aload_n 0, []), (51, .getfield 7, [12, 0, 1381, 2, 1]), (54, .iload 5, []), (56, .iconst 2, []), (57, .iadd, []), (58, .iload_n 2, []), (59, .iastore, []), (60, .aload_n 0, []), (61, .getfield 7, [12, 0, 1381, 2, 1]), (64, .iload 5, []), (66, .iconst 3, []), (67, .iadd, []), (68, .iload_n 3, []), (69, .iastore, []), (70, .aload_n 0, []), (71, .getfield 7, [12, 0, 1381, 2, 1]), (74, .iload 5, []), (76, .iconst 4, []), (77, .iadd, []), (78, .iload 4, []), (80, .iastore, []), (81, .aload_n 0, []), (82, .getfield 7, [12, 0, 1381, 2, 1]), (85, .iconst 2, []), (86, .dup2, []), (87, .iaload, []), (88, .iconst 1, []), (89, .iadd, []), (90, .iastore, []), (91, .return_, [])]
/-- IsHeInModel.notes -/
def me247 : mM := (1, ⟨"IsHeInModel", "notes", "(IIII)V"⟩, prog_14_method_56_code, 6, none, 12, [1751, 141, 1750, 99], mc247)
def mc248 : List mI := [(0, .iconst 0, []), (1, .istore_n 2, []), (2, .iload_n 2, []), (3, .aload_n 0, []), (4, .getfield 7, [12, 0, 1381, 2, 1]), (7, .bipush 112, []), (9, .iaload, []), (10, .if_icmp .ge 24, []), (13, .aload_n 0, []), (14, .getfield 7, [12, 0, 1381, 2, 1]), (17, .bipush 15, []), (19, .iload_n 2, []), (20, .iadd, []), (21, .iaload, []), (22, .iload_n 1, []), (23, .if_icmp .ne 5, []), (26, .iload_n 2, []), (27, .ireturn, []), (28, .iinc 2 1, []), (31, .goto (-29), []), (34, .iconst (-1), []), (35, .ireturn, [])]
/-- IsHeInModel.keyOn -/
def me248 : mM := (1, ⟨"IsHeInModel", "keyOn", "(I)I"⟩, prog_14_method_57_code, 3, (some .int), 12, [1743, 141, 1742, 97], mc248)
def mc249 : List mI := [(0, .iconst 0, []), (1, .istore_n 2, []), (2, .iload_n 2, []), (3, .aload_n 0, []), (4, .getfield 7, [12, 0, 1381, 2, 1]), (7, .bipush 116, []), (9, .iaload, []), (10, .if_icmp .ge 71, []), (13, .sipush 155, []), (16, .iconst 4, []), (17, .iload_n 2, []), (18, .imul, []), (19, .iadd, []), (20, .istore_n 3, []), (21, .aload_n 0, []), (22, .getfield 7, [12, 0, 1381, 2, 1]), (25, .iload_n 3, []), (26, .iconst 3, []), (27, .iadd, []), (28, .iaload, []), (29, .iload_n 1, []), (30, .if_icmp .ne 45, []), (33, .aload_n 0, []), (34, .getfield 7, [12, 0, 1381, 2, 1]), (37, .iconst 0, []), (38, .iaload, []), (39, .bipush 24, []), (41, .irem, []), (42, .bipush 24, []), (44, .iadd, []), (45, .aload_n 0, []), (46, .getfield 7, [12, 0, 1381, 2, 1]), (49, .iload_n 3, []), (50, .iconst 1, []), (51, .iadd, []), (52, .iaload, []), (53, .isub, []), (54, .bipush 24, []), (56, .irem, []), (57, .aload_n 0, []), (58, .getfield 7, [12, 0, 1381, 2, 1]), (61, .iload_n 3, []), (62, .iconst 2, []), (63, .iadd, []), (64, .iaload, []), (65, .if_icmp .ge 10, []), (68, .aload_n 0, []), (69, .getfield 7, [12, 0, 1381, 2, 1]), (72, .iload_n 3, []), (73, .iaload, []), (74, .ireturn, []), (75, .iinc 2 1, []), (78, .goto (-76), []), (81, .iconst (-1), []), (82, .ireturn, [])]
/-- IsHeInModel.clerkAt -/
def me249 : mM := (1, ⟨"IsHeInModel", "clerkAt", "(I)I"⟩, prog_14_method_58_code, 4, (some .int), 12, [1747, 141, 1746, 98], mc249)
def mc250 : List mI := [(0, .aload_n 0, []), (1, .sipush 1000, []), (4, .invokevirtual 308, [200, 1, 1730, 0]), (7, .iload_n 2, []), (8, .if_icmp .ge 5, []), (11, .iconst (-1), []), (12, .ireturn, []), (13, .aload_n 0, []), (14, .sipush 1000, []), (17, .invokevirtual 308, [200, 1, 1730, 0]), (20, .iload_n 3, []), (21, .if_icmp .ge 7, []), (24, .iconst 1, []), (25, .goto 4, []), (28, .iconst 0, []), (29, .istore 4, []), (31, .iload_n 1, []), (32, .iconst 1, []), (33, .iadd, []), (34, .aload_n 0, []), (35, .getfield 7, [12, 0, 1381, 2, 1]), (38, .bipush 112, []), (40, .iaload, []), (41, .irem, []), (42, .istore 5, []), (44, .iload 4, []), (46, .ifCond .eq 16, []), (49, .aload_n 0, []), (50, .iload 5, []), (52, .invokevirtual 311, [248, 1, 1740, 0]), (55, .iconst (-1), []), (56, .if_icmp .ne 6, []), (59, .iload 5, []), (61, .ireturn, []), (62, .aload_n 0, []), (63, .iload_n 1, []), (64, .invokevirtual 311, [248, 1, 1740, 0]), (67, .iconst (-1), []), (68, .if_icmp .ne 7, []), (71, .iload_n 1, []), (72, .goto 4, []), (75, .iconst (-1), []), (76, .ireturn, [])]
/-- IsHeInModel.hangsOn -/
def me250 : mM := (1, ⟨"IsHeInModel", "hangsOn", "(III)I"⟩, prog_14_method_59_code, 6, (some .int), 12, [1739, 141, 1738, 96], mc250)
def mc251 : List mI := [(0, .aload_n 0, []), (1, .getfield 7, [12, 0, 1381, 2, 1]), (4, .iconst 3, []), (5, .iload_n 1, []), (6, .iadd, []), (7, .iaload, []), (8, .iconst 1, []), (9, .if_icmp .ne 7, []), (12, .iconst 1, []), (13, .goto 4, []), (16, .iconst 0, []), (17, .istore_n 2, []), (18, .aload_n 0, []), (19, .iload_n 2, []), (20, .ifCond .eq 8, []), (23, .bipush 21, []), (25, .goto 5, []), (28, .bipush 20, []), (30, .iload_n 1, []), (31, .invokevirtual 314, [244, 2, 1697, 0]), (34, .istore_n 3, []), (35, .aload_n 0, []), (36, .bipush 24, []), (38, .iload_n 1, []), (39, .invokevirtual 314, [244, 2, 1697, 0]), (42, .istore 4, []), (44, .aload_n 0, []), (45, .bipush 22, []), (47, .iload_n 1, []), (48, .invokevirtual 314, [244, 2, 1697, 0]), (51, .istore 5, []), (53, .aload_n 0, []), (54, .bipush 23, []), (56, .iload_n 1, []), (57, .invokevirtual 314, [244, 2, 1697, 0]), (60, .istore 6, []), (62, .aload_n 0, []), (63, .sipush 1000, []), (66, .invokevirtual 308, [200, 1, 1730, 0]), (69, .iload_n 3, []), (70, .if_icmp .lt 5, []), (73, .iconst 0, []), (74, .ireturn, []), (75, .aload_n 0, []), (76, .sipush 1000, []), (79, .invokevirtual 308, [200, 1, 1730, 0]), (82, .iload 4, []), (84, .if_icmp .ge 7, []), (87, .iconst 0, []), (88, .goto 4, []), (91, .iconst 1, []), (92, .istore 7, []), (94, .aload_n 0, []), (95, .getfield 7, [12, 0, 1381, 2, 1]), (98, .iconst 3, []), (99, .iload_n 1, []), (100, .iadd, []), (101, .iload_n 2, []), (102, .ifCond .eq 7, []), (105, .iconst 0, []), (106, .goto 4, []), (109, .iconst 1, []), (110, .iastore, []), (111, .aload_n 0, []), (112, .getfield 7, [12, 0, 1381, 2, 1]), (115, .bipush 15, []), (117, .iload_n 1, []), (118, .iadd, []), (119, .iload_n 2, []), (120, .ifCond .eq 7, []), (123, .iconst (-1), []), (124, .goto 12, []), (127, .aload_n 0, []), (128, .iload_n 1, []), (129, .iload 5, []), (131, .iload 6, []), (133, .invokevirtual 317, [250, 3, 1736, 0]), (136, .iastore, []), (137, .aload_n 0, []), (138, .iload_n 2, []), (139, .ifCond .eq 7, []), (142, .iconst 1, []), (143, .goto 4, []), (146, .iconst 0, []), (147, .iload_n 1, []), (148, .iload 7, []), (150, .aload_n 0, []), (151, .iload 7, []), (153, .invokevirtual 320, [249, 1, 1744, 0]), (156, .invokevirtual 323, [247, 4, 1748, 0]), (159, .iconst 1, []), (160, .ireturn, [])]
/-- IsHeInModel.isMoved -/
def me251 : mM := (1, ⟨"IsHeInModel", "isMoved", "(I)Z"⟩, prog_14_method_60_code, 8, (some .boolean), 12, [1696, 141, 1695, 88], mc251)
def mc252 : List mI := [(0, .iconst 0, []), (1, .istore_n 1, []), (2, .iconst 0, []), (3, .istore_n 2, []), (4, .iload_n 2, []), (5, .aload_n 0, []), (6, .getfield 7, [12, 0, 1381, 2, 1]), (9, .bipush 112, []), (11, .iaload, []), (12, .if_icmp .ge 61, []), (15, .aload_n 0, []), (16, .iload_n 2, []), (17, .invokevirtual 327, [251, 1, 1693, 0]), (20, .istore_n 3, []), (21, .aload_n 0, []), (22, .getfield 7, [12, 0, 1381, 2, 1]), (25, .bipush 27, []), (27, .iload_n 2, []), (28, .iadd, []), (29, .iload_n 3, []), (30, .ifCond .eq 7, []), (33, .iconst 0, []), (34, .goto 20, []), (37, .sipush 999, []), (40, .aload_n 0, []), (41, .getfield 7, [12, 0, 1381, 2, 1]), (44, .bipush 27, []), (46, .iload_n 2, []), (47, .iadd, []), (48, .iaload, []), (49, .iconst 1, []), (50, .iadd, []), (51, .invokestatic 294, [194, 2, 1720, 0]), (54, .iastore, []), (55, .iload_n 1, []), (56, .iload_n 3, []), (57, .ifCond .eq 7, []), (60, .iconst 1, []), (61, .goto 4, []), (64, .iconst 0, []), (65, .iadd, []), (66, .istore_n 1, []), (67, .iinc 2 1, []), (70, .goto (-66), []), (73, .aload_n 0, []), (74, .getfield 7, [12, 0, 1381, 2, 1]), (77, .iconst 0, []), (78, .dup2, []), (79, .iaload, []), (80, .iconst 1, []), (81, .iadd, []), (82, .iastore, []), (83, .iload_n 1, []), (84, .ireturn, [])]
/-- IsHeInModel.anHour -/
def me252 : mM := (1, ⟨"IsHeInModel", "anHour", "()I"⟩, prog_14_method_61_code, 4, (some .int), 12, [1692, 141, 1691, 87], mc252)
def mc253 : List mI := [(0, .iload_n 1, []), (1, .iconst 1, []), (2, .bipush 60, []), (4, .invokestatic 63, [193, 3, 1500, 0]), (7, .ifCond .eq 17, []), (10, .aload_n 0, []), (11, .getfield 7, [12, 0, 1381, 2, 1]), (14, .iconst 0, []), (15, .iaload, []), (16, .iload_n 1, []), (17, .iadd, []), (18, .sipush 9999, []), (21, .if_icmp .le 5, []), (24, .iconst (-1), []), (25, .ireturn, []), (26, .iconst 0, []), (27, .istore_n 2, []), (28, .iconst 0, []), (29, .istore_n 3, []), (30, .iload_n 3, []), (31, .iload_n 1, []), (32, .if_icmp .ge 20, []), (35, .aload_n 0, []), (36, .invokevirtual 330, [245, 0, 1685, 0]), (39, .iload_n 2, []), (40, .aload_n 0, []), (41, .invokevirtual 333, [252, 0, 1689, 0]), (44, .iadd, []), (45, .istore_n 2, []), (46, .iinc 3 1, []), (49, .goto (-19), []), (52, .iload_n 2, []), (53, .ireturn, [])]
/-- IsHeInModel.hours -/
def me253 : mM := (1, ⟨"IsHeInModel", "hours", "(I)I"⟩, prog_14_method_62_code, 4, (some .int), 12, [1684, 141, 1682, 1683], mc253)
def mc254 : List mI := [(0, .aload_n 0, []), (1, .iload_n 1, []), (2, .invokevirtual 75, [196, 1, 1507, 0]), (5, .ifCond .eq 31, []), (8, .aload_n 0, []), (9, .iload_n 2, []), (10, .invokevirtual 75, [196, 1, 1507, 0]), (13, .ifCond .eq 23, []), (16, .aload_n 0, []), (17, .getfield 7, [12, 0, 1381, 2, 1]), (20, .iconst 3, []), (21, .iload_n 1, []), (22, .iadd, []), (23, .iaload, []), (24, .ifCond .eq 12, []), (27, .aload_n 0, []), (28, .iload_n 2, []), (29, .invokevirtual 311, [248, 1, 1740, 0]), (32, .iconst (-1), []), (33, .if_icmp .eq 5, []), (36, .iconst 0, []), (37, .ireturn, []), (38, .aload_n 0, []), (39, .invokevirtual 330, [245, 0, 1685, 0]), (42, .aload_n 0, []), (43, .getfield 7, [12, 0, 1381, 2, 1]), (46, .bipush 15, []), (48, .iload_n 1, []), (49, .iadd, []), (50, .iload_n 2, []), (51, .iastore, []), (52, .aload_n 0, []), (53, .iconst 2, []), (54, .iload_n 1, []), (55, .iload_n 2, []), (56, .iconst (-1), []), (57, .invokevirtual 323, [247, 4, 1748, 0]), (60, .iconst 1, []), (61, .ireturn, [])]
/-- IsHeInModel.hang -/
def me254 : mM := (1, ⟨"IsHeInModel", "hang", "(II)Z"⟩, prog_14_method_63_code, 3, (some .boolean), 12, [1755, 141, 1753, 1754], mc254)
def mc255 : List mI := [(0, .aload_n 0, []), (1, .iload_n 1, []), (2, .invokevirtual 75, [196, 1, 1507, 0]), (5, .ifCond .eq 38, []), (8, .aload_n 0, []), (9, .iload_n 2, []), (10, .invokevirtual 336, [197, 1, 1760, 0]), (13, .ifCond .eq 30, []), (16, .iload_n 3, []), (17, .iconst (-1), []), (18, .iconst 1, []), (19, .invokestatic 63, [193, 3, 1500, 0]), (22, .ifCond .eq 21, []), (25, .aload_n 0, []), (26, .getfield 7, [12, 0, 1381, 2, 1]), (29, .bipush 39, []), (31, .bipush 6, []), (33, .iload_n 1, []), (34, .imul, []), (35, .iadd, []), (36, .iload_n 2, []), (37, .iadd, []), (38, .iaload, []), (39, .iload_n 3, []), (40, .if_icmp .ne 5, []), (43, .iconst 0, []), (44, .ireturn, []), (45, .aload_n 0, []), (46, .invokevirtual 330, [245, 0, 1685, 0]), (49, .aload_n 0, []), (50, .getfield 7, [12, 0, 1381, 2, 1]), (53, .bipush 39, []), (55, .bipush 6, []), (57, .iload_n 1, []), (58, .imul, []), (59, .iadd, []), (60, .iload_n 2, []), (61, .iadd, []), (62, .iload_n 3, []), (63, .iastore, []), (64, .iconst 1, []), (65, .ireturn, [])]
/-- IsHeInModel.looks -/
def me255 : mM := (1, ⟨"IsHeInModel", "looks", "(III)Z"⟩, prog_14_method_64_code, 4, (some .boolean), 12, [1759, 141, 1757, 1758], mc255)
def mc256 : List mI := [(0, .ldc2_w 339, [1000000, 1780]), (3, .lload_n 1, []), (4, .lload_n 3, []), (5, .lmul, []), (6, .lmul, []), (7, .lload_n 1, []), (8, .lload_n 3, []), (9, .lmul, []), (10, .ldc2_w 339, [1000000, 1780]), (13, .lload_n 1, []), (14, .lsub, []), (15, .lload 5, []), (17, .lmul, []), (18, .ladd, []), (19, .ldiv, []), (20, .lreturn, [])]
/-- IsHeInModel.byA -/
def me256 : mM := (1, ⟨"IsHeInModel", "byA", "(JJJ)J"⟩, prog_14_method_65_code, 7, (some .long), 12, [1779, 141, 1778, 103], mc256)
def mc257 : List mI := [(0, .aload_n 0, []), (1, .getfield 7, [12, 0, 1381, 2, 1]), (4, .sipush 143, []), (7, .iconst 2, []), (8, .iload_n 3, []), (9, .imul, []), (10, .iadd, []), (11, .iaload, []), (12, .istore 5, []), (14, .aload_n 0, []), (15, .getfield 7, [12, 0, 1381, 2, 1]), (18, .sipush 143, []), (21, .iconst 2, []), (22, .iload_n 3, []), (23, .imul, []), (24, .iadd, []), (25, .iconst 1, []), (26, .iadd, []), (27, .iaload, []), (28, .istore 6, []), (30, .iload 4, []), (32, .iconst 1, []), (33, .if_icmp .ne 17, []), (36, .aload_n 0, []), (37, .lload_n 1, []), (38, .iload 5, []), (40, .i2l, []), (41, .iload 6, []), (43, .i2l, []), (44, .invokevirtual 341, [256, 3, 1776, 0]), (47, .goto 22, []), (50, .aload_n 0, []), (51, .lload_n 1, []), (52, .sipush 1000, []), (55, .iload 5, []), (57, .isub, []), (58, .i2l, []), (59, .sipush 1000, []), (62, .iload 6, []), (64, .isub, []), (65, .i2l, []), (66, .invokevirtual 341, [256, 3, 1776, 0]), (69, .lreturn, [])]
/-- IsHeInModel.bySign -/
def me257 : mM := (1, ⟨"IsHeInModel", "bySign", "(JII)J"⟩, prog_14_method_66_code, 7, (some .long), 12, [1775, 141, 1774, 102], mc257)
def mc258 : List mI := [(0, .sipush 1000, []), (3, .aload_n 0, []), (4, .bipush 25, []), (6, .iload_n 1, []), (7, .invokevirtual 314, [244, 2, 1697, 0]), (10, .imul, []), (11, .i2l, []), (12, .lstore_n 2, []), (13, .iconst 0, []), (14, .istore 4, []), (16, .iload 4, []), (18, .aload_n 0, []), (19, .getfield 7, [12, 0, 1381, 2, 1]), (22, .bipush 115, []), (24, .iaload, []), (25, .if_icmp .ge 51, []), (28, .aload_n 0, []), (29, .getfield 7, [12, 0, 1381, 2, 1]), (32, .bipush 39, []), (34, .bipush 6, []), (36, .iload_n 1, []), (37, .imul, []), (38, .iadd, []), (39, .iload 4, []), (41, .iadd, []), (42, .iaload, []), (43, .iconst (-1), []), (44, .if_icmp .eq 26, []), (47, .aload_n 0, []), (48, .lload_n 2, []), (49, .iload 4, []), (51, .aload_n 0, []), (52, .getfield 7, [12, 0, 1381, 2, 1]), (55, .bipush 39, []), (57, .bipush 6, []), (59, .iload_n 1, []), (60, .imul, []), (61, .iadd, []), (62, .iload 4, []), (64, .iadd, []), (65, .iaload, []), (66, .invokevirtual 345, [257, 3, 1772, 0]), (69, .lstore_n 2, []), (70, .iinc 4 1, []), (73, .goto (-57), []), (76, .lload_n 2, []), (77, .lreturn, [])]
/-- IsHeInModel.sureOf -/
def me258 : mM := (1, ⟨"IsHeInModel", "sureOf", "(I)J"⟩, prog_14_method_67_code, 5, (some .long), 12, [1771, 141, 1770, 101], mc258)
def mc259 : List mI := [(0, .lload_n 0, []), (1, .ldc2_w 339, [1000000, 1780]), (4, .lload_n 0, []), (5, .lsub, []), (6, .lcmp, []), (7, .ifCond .le 7, []), (10, .lload_n 0, []), (11, .goto 8, []), (14, .ldc2_w 339, [1000000, 1780]), (17, .lload_n 0, []), (18, .lsub, []), (19, .lreturn, [])]
/-- IsHeInModel.surer -/
def me259 : mM := (0, ⟨"IsHeInModel", "surer", "(J)J"⟩, prog_14_method_68_code, 2, (some .long), 12, [1801, 141, 1800, 0], mc259)
def mc260 : List mI := [(0, .lload_n 1, []), (1, .aload_n 0, []), (2, .getfield 7, [12, 0, 1381, 2, 1]), (5, .sipush 143, []), (8, .iconst 2, []), (9, .iload_n 3, []), (10, .imul, []), (11, .iadd, []), (12, .iaload, []), (13, .i2l, []), (14, .lmul, []), (15, .ldc2_w 339, [1000000, 1780]), (18, .lload_n 1, []), (19, .lsub, []), (20, .aload_n 0, []), (21, .getfield 7, [12, 0, 1381, 2, 1]), (24, .sipush 143, []), (27, .iconst 2, []), (28, .iload_n 3, []), (29, .imul, []), (30, .iadd, []), (31, .iconst 1, []), (32, .iadd, []), (33, .iaload, []), (34, .i2l, []), (35, .lmul, []), (36, .ladd, []), (37, .ldc2_w 349, [1000, 1798]), (40, .ldiv, []), (41, .lreturn, [])]
/-- IsHeInModel.seeing -/
def me260 : mM := (1, ⟨"IsHeInModel", "seeing", "(JI)J"⟩, prog_14_method_69_code, 4, (some .long), 12, [1797, 141, 1796, 107], mc260)
def mc261 : List mI := [(0, .aload_n 0, []), (1, .lload_n 1, []), (2, .iload_n 3, []), (3, .invokevirtual 351, [260, 2, 1794, 0]), (6, .lstore 4, []), (8, .lload 4, []), (10, .aload_n 0, []), (11, .lload_n 1, []), (12, .iload_n 3, []), (13, .iconst 1, []), (14, .invokevirtual 345, [257, 3, 1772, 0]), (17, .invokestatic 355, [259, 1, 1799, 0]), (20, .lmul, []), (21, .ldc2_w 339, [1000000, 1780]), (24, .lload 4, []), (26, .lsub, []), (27, .aload_n 0, []), (28, .lload_n 1, []), (29, .iload_n 3, []), (30, .iconst 0, []), (31, .invokevirtual 345, [257, 3, 1772, 0]), (34, .invokestatic 355, [259, 1, 1799, 0]), (37, .lmul, []), (38, .ladd, []), (39, .lreturn, [])]
/-- IsHeInModel.worthOf -/
def me261 : mM := (1, ⟨"IsHeInModel", "worthOf", "(JI)J"⟩, prog_14_method_70_code, 6, (some .long), 12, [1793, 141, 1792, 106], mc261)
def mc262 : List mI := [(0, .iconst 0, []), (1, .istore_n 2, []), (2, .iconst 0, []), (3, .istore_n 3, []), (4, .iload_n 3, []), (5, .aload_n 0, []), (6, .getfield 7, [12, 0, 1381, 2, 1]), (9, .bipush 115, []), (11, .iaload, []), (12, .if_icmp .ge 37, []), (15, .iload_n 2, []), (16, .aload_n 0, []), (17, .getfield 7, [12, 0, 1381, 2, 1]), (20, .bipush 39, []), (22, .bipush 6, []), (24, .iload_n 1, []), (25, .imul, []), (26, .iadd, []), (27, .iload_n 3, []), (28, .iadd, []), (29, .iaload, []), (30, .iconst (-1), []), (31, .if_icmp .eq 9, []), (34, .iconst 1, []), (35, .iload_n 3, []), (36, .ishl, []), (37, .goto 4, []), (40, .iconst 0, []), (41, .ior, []), (42, .istore_n 2, []), (43, .iinc 3 1, []), (46, .goto (-42), []), (49, .iload_n 2, []), (50, .ireturn, [])]
/-- IsHeInModel.lookedAt -/
def me262 : mM := (1, ⟨"IsHeInModel", "lookedAt", "(I)I"⟩, prog_14_method_71_code, 4, (some .int), 12, [1784, 141, 1783, 104], mc262)
def mc263 : List mI := [(0, .iconst (-1), []), (1, .istore 4, []), (3, .ldc2_w 359, [-1, 1789]), (6, .lstore 5, []), (8, .iconst 0, []), (9, .istore 7, []), (11, .iload 7, []), (13, .aload_n 0, []), (14, .getfield 7, [12, 0, 1381, 2, 1]), (17, .bipush 115, []), (19, .iaload, []), (20, .if_icmp .ge 48, []), (23, .iload_n 3, []), (24, .iload 7, []), (26, .ishr, []), (27, .iconst 1, []), (28, .iand, []), (29, .iconst 1, []), (30, .if_icmp .eq 32, []), (33, .aload_n 0, []), (34, .lload_n 1, []), (35, .iload 7, []), (37, .invokevirtual 361, [261, 2, 1790, 0]), (40, .lload 5, []), (42, .lcmp, []), (43, .ifCond .gt 6, []), (46, .goto 16, []), (49, .aload_n 0, []), (50, .lload_n 1, []), (51, .iload 7, []), (53, .invokevirtual 361, [261, 2, 1790, 0]), (56, .lstore 5, []), (58, .iload 7, []), (60, .istore 4, []), (62, .iinc 7 1, []), (65, .goto (-54), []), (68, .iload 4, []), (70, .ireturn, [])]
/-- IsHeInModel.nextOf -/
def me263 : mM := (1, ⟨"IsHeInModel", "nextOf", "(JI)I"⟩, prog_14_method_72_code, 8, (some .int), 12, [1788, 141, 1787, 105], mc263)
def mc264 : List mI := [(0, .aload_n 0, []), (1, .iload_n 1, []), (2, .invokevirtual 75, [196, 1, 1507, 0]), (5, .ifCond .eq 20, []), (8, .aload_n 0, []), (9, .aload_n 0, []), (10, .iload_n 1, []), (11, .invokevirtual 364, [258, 1, 1768, 0]), (14, .aload_n 0, []), (15, .iload_n 1, []), (16, .invokevirtual 368, [262, 1, 1781, 0]), (19, .invokevirtual 371, [263, 2, 1785, 0]), (22, .goto 4, []), (25, .iconst (-1), []), (26, .ireturn, [])]
/-- IsHeInModel.next -/
def me264 : mM := (1, ⟨"IsHeInModel", "next", "(I)I"⟩, prog_14_method_73_code, 2, (some .int), 12, [1767, 141, 1765, 1766], mc264)
def mc265 : List mI := [(0, .aload_n 0, []), (1, .iload_n 1, []), (2, .invokevirtual 75, [196, 1, 1507, 0]), (5, .ifCond .ne 5, []), (8, .iconst (-1), []), (9, .ireturn, []), (10, .aload_n 0, []), (11, .iload_n 1, []), (12, .invokevirtual 364, [258, 1, 1768, 0]), (15, .lstore_n 3, []), (16, .aload_n 0, []), (17, .iload_n 1, []), (18, .invokevirtual 368, [262, 1, 1781, 0]), (21, .istore 5, []), (23, .aload_n 0, []), (24, .lload_n 3, []), (25, .iload 5, []), (27, .invokevirtual 371, [263, 2, 1785, 0]), (30, .istore 6, []), (32, .iconst 0, []), (33, .istore 7, []), (35, .iload 7, []), (37, .iload_n 2, []), (38, .if_icmp .ge 60, []), (41, .iload 6, []), (43, .iconst (-1), []), (44, .if_icmp .eq 54, []), (47, .aload_n 0, []), (48, .lload_n 3, []), (49, .iload 6, []), (51, .aload_n 0, []), (52, .lload_n 3, []), (53, .iload 6, []), (55, .invokevirtual 351, [260, 2, 1794, 0]), (58, .ldc2_w 375, [500000, 1806]), (61, .lcmp, []), (62, .ifCond .lt 7, []), (65, .iconst 1, []), (66, .goto 4, []), (69, .iconst 0, []), (70, .invokevirtual 345, [257, 3, 1772, 0]), (73, .lstore_n 3, []), (74, .iload 5, []), (76, .iconst 1, []), (77, .iload 6, []), (79, .ishl, []), (80, .ior, []), (81, .istore 5, []), (83, .aload_n 0, []), (84, .lload_n 3, []), (85, .iload 5, []), (87, .invokevirtual 371, [263, 2, 1785, 0]), (90, .istore 6, []), (92, .iinc 7 1, []), (95, .goto (-60), []), (98, .iload_n 2, []), (99, .ifCond .ge 7, []), (102, .iconst (-1), []), (103, .goto 5, []), (106, .iload 6, []), (108, .ireturn, [])]
/-- IsHeInModel.looksAt -/
def me265 : mM := (1, ⟨"IsHeInModel", "looksAt", "(II)I"⟩, prog_14_method_74_code, 8, (some .int), 12, [1805, 141, 1803, 1804], mc265)
def mc266 : List mI := [(0, .iload_n 0, []), (1, .iconst 0, []), (2, .sipush 9999, []), (5, .invokestatic 63, [193, 3, 1500, 0]), (8, .ireturn, [])]
/-- IsHeInModel.isCost -/
def me266 : mM := (0, ⟨"IsHeInModel", "isCost", "(I)Z"⟩, prog_14_method_75_code, 1, (some .boolean), 12, [1813, 141, 1812, 0], mc266)
def mc267 : List mI := [(0, .aload_n 0, []), (1, .iload_n 1, []), (2, .invokevirtual 75, [196, 1, 1507, 0]), (5, .ifCond .eq 17, []), (8, .iload_n 2, []), (9, .invokestatic 377, [266, 1, 1811, 0]), (12, .ifCond .eq 10, []), (15, .iload_n 3, []), (16, .invokestatic 377, [266, 1, 1811, 0]), (19, .ifCond .ne 5, []), (22, .iconst (-1), []), (23, .ireturn, []), (24, .aload_n 0, []), (25, .iload_n 1, []), (26, .invokevirtual 364, [258, 1, 1768, 0]), (29, .lstore 4, []), (31, .ldc2_w 339, [1000000, 1780]), (34, .lload 4, []), (36, .lsub, []), (37, .iload_n 2, []), (38, .i2l, []), (39, .lmul, []), (40, .lload 4, []), (42, .iload_n 3, []), (43, .i2l, []), (44, .lmul, []), (45, .lcmp, []), (46, .ifCond .gt 7, []), (49, .iconst 1, []), (50, .goto 4, []), (53, .iconst 0, []), (54, .ireturn, [])]
/-- IsHeInModel.say -/
def me267 : mM := (1, ⟨"IsHeInModel", "say", "(III)I"⟩, prog_14_method_76_code, 6, (some .int), 12, [1810, 141, 1808, 1809], mc267)
def mc268 : List mI := [(0, .iload_n 1, []), (1, .iconst (-1), []), (2, .if_icmp .ne 14, []), (5, .aload_n 0, []), (6, .getfield 7, [12, 0, 1381, 2, 1]), (9, .sipush 1049, []), (12, .iconst 0, []), (13, .iastore, []), (14, .iconst 0, []), (15, .ireturn, []), (16, .aload_n 0, []), (17, .iload_n 1, []), (18, .invokevirtual 75, [196, 1, 1507, 0]), (21, .ifCond .eq 38, []), (24, .iload_n 2, []), (25, .iconst 0, []), (26, .sipush 999, []), (29, .invokestatic 63, [193, 3, 1500, 0]), (32, .ifCond .eq 27, []), (35, .iload_n 3, []), (36, .iconst 0, []), (37, .sipush 999, []), (40, .invokestatic 63, [193, 3, 1500, 0]), (43, .ifCond .eq 16, []), (46, .aload_n 0, []), (47, .getfield 7, [12, 0, 1381, 2, 1]), (50, .sipush 1049, []), (53, .iaload, []), (54, .bipush 8, []), (56, .if_icmp .ne 5, []), (59, .iconst (-1), []), (60, .ireturn, []), (61, .sipush 1870, []), (64, .iconst 3, []), (65, .aload_n 0, []), (66, .getfield 7, [12, 0, 1381, 2, 1]), (69, .sipush 1049, []), (72, .iaload, []), (73, .imul, []), (74, .iadd, []), (75, .istore 4, []), (77, .aload_n 0, []), (78, .getfield 7, [12, 0, 1381, 2, 1]), (81, .iload 4, []), (83, .iload_n 1, []), (84, .iastore, []), (85, .aload_n 0, []), (86, .getfield 7, [12, 0, 1381, 2, 1]), (89, .iload 4, []), (91, .iconst 1, []), (92, .iadd, []), (93, .iload_n 2, []), (94, .iastore, []), (95, .aload_n 0, []), (96, .getfield 7, [12, 0, 1381, 2, 1]), (99, .iload 4, []), (101, .iconst 2, []), (102, .iadd, []), (103, .iload_n 3, []), (104, .iastore, []), (105, .aload_n 0, []), (106, .getfield 7, [12, 0, 1381, 2, 1]), (109, .sipush 1049, []), (112, .dup2, []), (113, .iaload, []), (114, .iconst 1, []), (115, .iadd, []), (116, .iastore, []), (117, .aload_n 0, []), (118, .getfield 7, [12, 0, 1381, 2, 1]), (121, .sipush 1049, []), (124, .iaload, []), (125, .ireturn, [])]
/-- IsHeInModel.caller -/
def me268 : mM := (1, ⟨"IsHeInModel", "caller", "(III)I"⟩, prog_14_method_77_code, 5, (some .int), 12, [1817, 141, 1815, 1816], mc268)
def mc269 : List mI := [(0, .iload_n 1, []), (1, .iconst 0, []), (2, .iconst 1, []), (3, .invokestatic 63, [193, 3, 1500, 0]), (6, .ifCond .ne 5, []), (9, .iconst (-1), []), (10, .ireturn, []), (11, .iconst 0, []), (12, .istore_n 2, []), (13, .iconst 0, []), (14, .istore_n 3, []), (15, .iconst 0, []), (16, .istore 4, []), (18, .iload 4, []), (20, .aload_n 0, []), (21, .getfield 7, [12, 0, 1381, 2, 1]), (24, .sipush 1049, []), (27, .iaload, []), (28, .if_icmp .ge 134, []), (31, .sipush 1870, []), (34, .iconst 3, []), (35, .iload 4, []), (37, .imul, []), (38, .iadd, []), (39, .istore 5, []), (41, .aload_n 0, []), (42, .aload_n 0, []), (43, .getfield 7, [12, 0, 1381, 2, 1]), (46, .iload 5, []), (48, .iaload, []), (49, .aload_n 0, []), (50, .getfield 7, [12, 0, 1381, 2, 1]), (53, .iload 5, []), (55, .iconst 1, []), (56, .iadd, []), (57, .iaload, []), (58, .aload_n 0, []), (59, .getfield 7, [12, 0, 1381, 2, 1]), (62, .iload 5, []), (64, .iconst 2, []), (65, .iadd, []), (66, .iaload, []), (67, .invokevirtual 380, [267, 3, 1822, 0]), (70, .iconst 1, []), (71, .if_icmp .ne 7, []), (74, .iconst 1, []), (75, .goto 4, []), (78, .iconst 0, []), (79, .istore 6, []), (81, .aload_n 0, []), (82, .aload_n 0, []), (83, .getfield 7, [12, 0, 1381, 2, 1]), (86, .iload 5, []), (88, .iaload, []), (89, .invokevirtual 364, [258, 1, 1768, 0]), (92, .lstore 7, []), (94, .iload_n 2, []), (95, .iload 6, []), (97, .ifCond .eq 10, []), (100, .iconst 1, []), (101, .iload 4, []), (103, .ishl, []), (104, .goto 4, []), (107, .iconst 0, []), (108, .ior, []), (109, .istore_n 2, []), (110, .iload_n 3, []), (111, .iload 6, []), (113, .ifCond .eq 23, []), (116, .ldc2_w 339, [1000000, 1780]), (119, .lload 7, []), (121, .lsub, []), (122, .aload_n 0, []), (123, .getfield 7, [12, 0, 1381, 2, 1]), (126, .iload 5, []), (128, .iconst 1, []), (129, .iadd, []), (130, .iaload, []), (131, .i2l, []), (132, .lmul, []), (133, .goto 16, []), (136, .lload 7, []), (138, .aload_n 0, []), (139, .getfield 7, [12, 0, 1381, 2, 1]), (142, .iload 5, []), (144, .iconst 2, []), (145, .iadd, []), (146, .iaload, []), (147, .i2l, []), (148, .lmul, []), (149, .ldc2_w 339, [1000000, 1780]), (152, .ldiv, []), (153, .l2i, []), (154, .iadd, []), (155, .istore_n 3, []), (156, .iinc 4 1, []), (159, .goto (-141), []), (162, .iload_n 1, []), (163, .ifCond .ne 7, []), (166, .iload_n 2, []), (167, .goto 4, []), (170, .iload_n 3, []), (171, .ireturn, [])]
/-- IsHeInModel.said -/
def me269 : mM := (1, ⟨"IsHeInModel", "said", "(I)I"⟩, prog_14_method_78_code, 9, (some .int), 12, [1821, 141, 1819, 1820], mc269)
def mc270 : List mI := [(0, .iload_n 1, []), (1, .iconst 0, []), (2, .iconst 2, []), (3, .invokestatic 63, [193, 3, 1500, 0]), (6, .ifCond .eq 14, []), (9, .aload_n 0, []), (10, .getfield 7, [12, 0, 1381, 2, 1]), (13, .bipush 112, []), (15, .iaload, []), (16, .iconst 2, []), (17, .if_icmp .ge 5, []), (20, .iconst (-1), []), (21, .ireturn, []), (22, .ldc2_w 359, [-1, 1789]), (25, .lstore_n 2, []), (26, .iconst (-1), []), (27, .istore 4, []), (29, .iconst (-1), []), (30, .istore 5, []), (32, .iconst 0, []), (33, .istore 6, []), (35, .iload 6, []), (37, .aload_n 0, []), (38, .getfield 7, [12, 0, 1381, 2, 1]), (41, .bipush 112, []), (43, .iaload, []), (44, .if_icmp .ge 73, []), (47, .iload 6, []), (49, .iconst 1, []), (50, .iadd, []), (51, .istore 7, []), (53, .iload 7, []), (55, .aload_n 0, []), (56, .getfield 7, [12, 0, 1381, 2, 1]), (59, .bipush 112, []), (61, .iaload, []), (62, .if_icmp .ge 49, []), (65, .aload_n 0, []), (66, .iload 6, []), (68, .invokevirtual 364, [258, 1, 1768, 0]), (71, .aload_n 0, []), (72, .iload 7, []), (74, .invokevirtual 364, [258, 1, 1768, 0]), (77, .lmul, []), (78, .ldc2_w 339, [1000000, 1780]), (81, .ldiv, []), (82, .lstore 8, []), (84, .lload 8, []), (86, .lload_n 2, []), (87, .lcmp, []), (88, .ifCond .gt 6, []), (91, .goto 14, []), (94, .lload 8, []), (96, .lstore_n 2, []), (97, .iload 6, []), (99, .istore 4, []), (101, .iload 7, []), (103, .istore 5, []), (105, .iinc 7 1, []), (108, .goto (-55), []), (111, .iinc 6 1, []), (114, .goto (-79), []), (117, .iload_n 1, []), (118, .ifCond .ne 8, []), (121, .iload 4, []), (123, .goto 15, []), (126, .iload_n 1, []), (127, .iconst 1, []), (128, .if_icmp .ne 8, []), (131, .iload 5, []), (133, .goto 5, []), (136, .lload_n 2, []), (137, .l2i, []), (138, .ireturn, [])]
/-- IsHeInModel.pair -/
def me270 : mM := (1, ⟨"IsHeInModel", "pair", "(I)I"⟩, prog_14_method_79_code, 10, (some .int), 12, [1826, 141, 1824, 1825], mc270)
def mc271 : List mI := [(0, .iconst 0, []), (1, .istore_n 1, []), (2, .iload_n 1, []), (3, .aload_n 0, []), (4, .getfield 7, [12, 0, 1381, 2, 1]), (7, .bipush 112, []), (9, .iaload, []), (10, .if_icmp .gt 26, []), (13, .aload_n 0, []), (14, .getfield 41, [12, 26, 1407, 2, 1]), (17, .iload_n 1, []), (18, .iload_n 1, []), (19, .ifCond .ne 9, []), (22, .ldc2_w 339, [1000000, 1780]), (25, .goto 4, []), (28, .lconst 0, []), (29, .lastore, []), (30, .iinc 1 1, []), (33, .goto (-31), []), (36, .iconst 0, []), (37, .istore_n 1, []), (38, .iload_n 1, []), (39, .aload_n 0, []), (40, .getfield 7, [12, 0, 1381, 2, 1]), (43, .bipush 112, []), (45, .iaload, []), (46, .if_icmp .ge 84, []), (49, .aload_n 0, []), (50, .iload_n 1, []), (51, .invokevirtual 364, [258, 1, 1768, 0]), (54, .lstore_n 2, []), (55, .aload_n 0, []), (56, .getfield 7, [12, 0, 1381, 2, 1]), (59, .bipush 112, []), (61, .iaload, []), (62, .istore 4, []), (64, .iload 4, []), (66, .ifCond .lt 58, []), (69, .aload_n 0, []), (70, .getfield 41, [12, 26, 1407, 2, 1]), (73, .iload 4, []), (75, .aload_n 0, []), (76, .getfield 41, [12, 26, 1407, 2, 1]), (79, .iload 4, []), (81, .laload, []), (82, .ldc2_w 339, [1000000, 1780]), (85, .lload_n 2, []), (86, .lsub, []), (87, .lmul, []), (88, .ldc2_w 339, [1000000, 1780]), (91, .ldiv, []), (92, .iload 4, []), (94, .ifCond .ne 7, []), (97, .lconst 0, []), (98, .goto 18, []), (101, .aload_n 0, []), (102, .getfield 41, [12, 26, 1407, 2, 1]), (105, .iload 4, []), (107, .iconst 1, []), (108, .isub, []), (109, .laload, []), (110, .lload_n 2, []), (111, .lmul, []), (112, .ldc2_w 339, [1000000, 1780]), (115, .ldiv, []), (116, .ladd, []), (117, .lastore, []), (118, .iinc 4 (-1), []), (121, .goto (-57), []), (124, .iinc 1 1, []), (127, .goto (-89), []), (130, .return_, [])]
/-- IsHeInModel.laysChances -/
def me271 : mM := (1, ⟨"IsHeInModel", "laysChances", "()V"⟩, prog_14_method_80_code, 5, none, 12, [1834, 141, 1833, 108], mc271)
def mc272 : List mI := [(0, .iload_n 1, []), (1, .iconst 0, []), (2, .iconst 2, []), (3, .invokestatic 63, [193, 3, 1500, 0]), (6, .ifCond .ne 5, []), (9, .iconst (-1), []), (10, .ireturn, []), (11, .lconst 0, []), (12, .lstore_n 2, []), (13, .iconst 0, []), (14, .istore 4, []), (16, .iload 4, []), (18, .aload_n 0, []), (19, .getfield 7, [12, 0, 1381, 2, 1]), (22, .bipush 112, []), (24, .iaload, []), (25, .if_icmp .ge 18, []), (28, .lload_n 2, []), (29, .aload_n 0, []), (30, .iload 4, []), (32, .invokevirtual 364, [258, 1, 1768, 0]), (35, .ladd, []), (36, .lstore_n 2, []), (37, .iinc 4 1, []), (40, .goto (-24), []), (43, .iload_n 1, []), (44, .ifCond .ne 10, []), (47, .lload_n 2, []), (48, .ldc2_w 339, [1000000, 1780]), (51, .ldiv, []), (52, .l2i, []), (53, .ireturn, []), (54, .aload_n 0, []), (55, .invokevirtual 383, [271, 0, 1831, 0]), (58, .iconst 0, []), (59, .istore 4, []), (61, .iconst 1, []), (62, .istore 5, []), (64, .iload 5, []), (66, .aload_n 0, []), (67, .getfield 7, [12, 0, 1381, 2, 1]), (70, .bipush 112, []), (72, .iaload, []), (73, .if_icmp .gt 31, []), (76, .aload_n 0, []), (77, .getfield 41, [12, 26, 1407, 2, 1]), (80, .iload 5, []), (82, .laload, []), (83, .aload_n 0, []), (84, .getfield 41, [12, 26, 1407, 2, 1]), (87, .iload 4, []), (89, .laload, []), (90, .lcmp, []), (91, .ifCond .le 7, []), (94, .iload 5, []), (96, .istore 4, []), (98, .iinc 5 1, []), (101, .goto (-37), []), (104, .iload_n 1, []), (105, .iconst 1, []), (106, .if_icmp .ne 8, []), (109, .iload 4, []), (111, .goto 11, []), (114, .aload_n 0, []), (115, .getfield 41, [12, 26, 1407, 2, 1]), (118, .iload 4, []), (120, .laload, []), (121, .l2i, []), (122, .ireturn, [])]
/-- IsHeInModel.many -/
def me272 : mM := (1, ⟨"IsHeInModel", "many", "(I)I"⟩, prog_14_method_81_code, 6, (some .int), 12, [1830, 141, 1828, 1829], mc272)
def mc273 : List mI := [(0, .iconst 0, []), (1, .istore 4, []), (3, .iconst 0, []), (4, .istore 5, []), (6, .iload 5, []), (8, .aload_n 0, []), (9, .getfield 7, [12, 0, 1381, 2, 1]), (12, .bipush 112, []), (14, .iaload, []), (15, .if_icmp .ge 39, []), (18, .iload 4, []), (20, .aload_n 0, []), (21, .bipush 22, []), (23, .iload 5, []), (25, .aload_n 0, []), (26, .getfield 7, [12, 0, 1381, 2, 1]), (29, .iconst 0, []), (30, .iaload, []), (31, .iload_n 1, []), (32, .aload_n 0, []), (33, .getfield 7, [12, 0, 1381, 2, 1]), (36, .bipush 27, []), (38, .iload 5, []), (40, .iadd, []), (41, .iaload, []), (42, .invokevirtual 304, [243, 5, 1701, 0]), (45, .iadd, []), (46, .istore 4, []), (48, .iinc 5 1, []), (51, .goto (-45), []), (54, .iload 4, []), (56, .iload_n 2, []), (57, .imul, []), (58, .sipush 1000, []), (61, .idiv, []), (62, .iload_n 1, []), (63, .iload_n 3, []), (64, .imul, []), (65, .iadd, []), (66, .ireturn, [])]
/-- IsHeInModel.tagCostOf -/
def me273 : mM := (1, ⟨"IsHeInModel", "tagCostOf", "(III)I"⟩, prog_14_method_82_code, 6, (some .int), 12, [1842, 141, 1841, 109], mc273)
def mc274 : List mI := [(0, .iload_n 1, []), (1, .iconst 0, []), (2, .sipush 999, []), (5, .invokestatic 63, [193, 3, 1500, 0]), (8, .ifCond .eq 14, []), (11, .iload_n 2, []), (12, .iconst 0, []), (13, .sipush 999, []), (16, .invokestatic 63, [193, 3, 1500, 0]), (19, .ifCond .ne 5, []), (22, .iconst (-1), []), (23, .ireturn, []), (24, .iconst 0, []), (25, .istore_n 3, []), (26, .iconst 1, []), (27, .istore 4, []), (29, .iload 4, []), (31, .bipush 20, []), (33, .if_icmp .gt 30, []), (36, .aload_n 0, []), (37, .iload 4, []), (39, .iload_n 1, []), (40, .iload_n 2, []), (41, .invokevirtual 386, [273, 3, 1839, 0]), (44, .aload_n 0, []), (45, .iload_n 3, []), (46, .iload_n 1, []), (47, .iload_n 2, []), (48, .invokevirtual 386, [273, 3, 1839, 0]), (51, .if_icmp .ge 6, []), (54, .iload 4, []), (56, .istore_n 3, []), (57, .iinc 4 1, []), (60, .goto (-31), []), (63, .iload_n 3, []), (64, .ireturn, [])]
/-- IsHeInModel.tag -/
def me274 : mM := (1, ⟨"IsHeInModel", "tag", "(II)I"⟩, prog_14_method_83_code, 5, (some .int), 12, [1838, 141, 1836, 1837], mc274)
def mc275 : List mI := [(0, .iload_n 1, []), (1, .iconst 0, []), (2, .sipush 999, []), (5, .invokestatic 63, [193, 3, 1500, 0]), (8, .ifCond .eq 34, []), (11, .iload_n 2, []), (12, .iconst 0, []), (13, .sipush 999, []), (16, .invokestatic 63, [193, 3, 1500, 0]), (19, .ifCond .eq 23, []), (22, .iload_n 3, []), (23, .iconst 0, []), (24, .bipush 20, []), (26, .invokestatic 63, [193, 3, 1500, 0]), (29, .ifCond .eq 13, []), (32, .aload_n 0, []), (33, .iload_n 3, []), (34, .iload_n 1, []), (35, .iload_n 2, []), (36, .invokevirtual 386, [273, 3, 1839, 0]), (39, .goto 4, []), (42, .iconst (-1), []), (43, .ireturn, [])]
/-- IsHeInModel.tagCost -/
def me275 : mM := (1, ⟨"IsHeInModel", "tagCost", "(III)I"⟩, prog_14_method_84_code, 4, (some .int), 12, [1846, 141, 1844, 1845], mc275)
def mc276 : List mI := [(0, .lconst 0, []), (1, .lstore 4, []), (3, .iload_n 1, []), (4, .istore 6, []), (6, .iload 6, []), (8, .aload_n 0, []), (9, .getfield 7, [12, 0, 1381, 2, 1]), (12, .bipush 112, []), (14, .iaload, []), (15, .if_icmp .gt 35, []), (18, .lload 4, []), (20, .aload_n 0, []), (21, .getfield 41, [12, 26, 1407, 2, 1]), (24, .iload 6, []), (26, .laload, []), (27, .ladd, []), (28, .lstore 4, []), (30, .lload 4, []), (32, .lload_n 2, []), (33, .lcmp, []), (34, .ifCond .lt 10, []), (37, .iload 6, []), (39, .iload_n 1, []), (40, .isub, []), (41, .iconst 1, []), (42, .iadd, []), (43, .ireturn, []), (44, .iinc 6 1, []), (47, .goto (-41), []), (50, .iconst (-1), []), (51, .ireturn, [])]
/-- IsHeInModel.longFrom -/
def me276 : mM := (1, ⟨"IsHeInModel", "longFrom", "(IJ)I"⟩, prog_14_method_85_code, 7, (some .int), 12, [1854, 141, 1853, 110], mc276)
def mc277 : List mI := [(0, .iload_n 1, []), (1, .iconst 0, []), (2, .sipush 1000, []), (5, .invokestatic 63, [193, 3, 1500, 0]), (8, .ifCond .eq 12, []), (11, .iload_n 2, []), (12, .iconst 0, []), (13, .iconst 1, []), (14, .invokestatic 63, [193, 3, 1500, 0]), (17, .ifCond .ne 5, []), (20, .iconst (-1), []), (21, .ireturn, []), (22, .aload_n 0, []), (23, .invokevirtual 383, [271, 0, 1831, 0]), (26, .iconst (-1), []), (27, .istore_n 3, []), (28, .iconst (-1), []), (29, .istore 4, []), (31, .iconst 0, []), (32, .istore 5, []), (34, .iload 5, []), (36, .aload_n 0, []), (37, .getfield 7, [12, 0, 1381, 2, 1]), (40, .bipush 112, []), (42, .iaload, []), (43, .if_icmp .gt 50, []), (46, .aload_n 0, []), (47, .iload 5, []), (49, .ldc2_w 349, [1000, 1798]), (52, .iload_n 1, []), (53, .i2l, []), (54, .lmul, []), (55, .invokevirtual 389, [276, 2, 1851, 0]), (58, .istore 6, []), (60, .iload 6, []), (62, .iconst (-1), []), (63, .if_icmp .eq 24, []), (66, .iload_n 3, []), (67, .iconst (-1), []), (68, .if_icmp .eq 12, []), (71, .iload 6, []), (73, .iload_n 3, []), (74, .if_icmp .lt 6, []), (77, .goto 10, []), (80, .iload 6, []), (82, .istore_n 3, []), (83, .iload 5, []), (85, .istore 4, []), (87, .iinc 5 1, []), (90, .goto (-56), []), (93, .iload 4, []), (95, .iconst (-1), []), (96, .if_icmp .eq 7, []), (99, .iload_n 2, []), (100, .ifCond .ne 8, []), (103, .iload 4, []), (105, .goto 9, []), (108, .iload 4, []), (110, .iload_n 3, []), (111, .iadd, []), (112, .iconst 1, []), (113, .isub, []), (114, .ireturn, [])]
/-- IsHeInModel.span -/
def me277 : mM := (1, ⟨"IsHeInModel", "span", "(II)I"⟩, prog_14_method_86_code, 7, (some .int), 12, [1850, 141, 1848, 1849], mc277)
def mc278 : List mI := [(0, .iconst 0, []), (1, .istore_n 2, []), (2, .iload_n 2, []), (3, .bipush 14, []), (5, .if_icmp .ge 27, []), (8, .aload_n 0, []), (9, .getfield 45, [12, 27, 1408, 2, 1]), (12, .iload_n 2, []), (13, .iload_n 2, []), (14, .iconst 1, []), (15, .if_icmp .ne 9, []), (18, .ldc2_w 339, [1000000, 1780]), (21, .goto 4, []), (24, .lconst 0, []), (25, .lastore, []), (26, .iinc 2 1, []), (29, .goto (-27), []), (32, .iconst 0, []), (33, .istore_n 2, []), (34, .iload_n 2, []), (35, .aload_n 0, []), (36, .getfield 7, [12, 0, 1381, 2, 1]), (39, .bipush 112, []), (41, .iaload, []), (42, .if_icmp .ge 79, []), (45, .iload_n 2, []), (46, .iload_n 1, []), (47, .if_icmp .ne 6, []), (50, .goto 65, []), (53, .aload_n 0, []), (54, .iload_n 2, []), (55, .invokevirtual 364, [258, 1, 1768, 0]), (58, .lstore_n 3, []), (59, .bipush 13, []), (61, .istore 5, []), (63, .iload 5, []), (65, .iconst 1, []), (66, .if_icmp .lt 49, []), (69, .aload_n 0, []), (70, .getfield 45, [12, 27, 1408, 2, 1]), (73, .iload 5, []), (75, .aload_n 0, []), (76, .getfield 45, [12, 27, 1408, 2, 1]), (79, .iload 5, []), (81, .laload, []), (82, .ldc2_w 339, [1000000, 1780]), (85, .lload_n 3, []), (86, .lsub, []), (87, .lmul, []), (88, .ldc2_w 339, [1000000, 1780]), (91, .ldiv, []), (92, .aload_n 0, []), (93, .getfield 45, [12, 27, 1408, 2, 1]), (96, .iload 5, []), (98, .iconst 1, []), (99, .isub, []), (100, .laload, []), (101, .lload_n 3, []), (102, .lmul, []), (103, .ldc2_w 339, [1000000, 1780]), (106, .ldiv, []), (107, .ladd, []), (108, .lastore, []), (109, .iinc 5 (-1), []), (112, .goto (-49), []), (115, .iinc 2 1, []), (118, .goto (-84), []), (121, .return_, [])]
/-- IsHeInModel.laysOthers -/
def me278 : mM := (1, ⟨"IsHeInModel", "laysOthers", "(I)V"⟩, prog_14_method_87_code, 6, none, 12, [1862, 141, 1861, 111], mc278)
def mc279 : List mI := [(0, .aload_n 0, []), (1, .iload_n 1, []), (2, .invokevirtual 75, [196, 1, 1507, 0]), (5, .ifCond .eq 13, []), (8, .iload_n 2, []), (9, .iconst 0, []), (10, .bipush 12, []), (12, .invokestatic 63, [193, 3, 1500, 0]), (15, .ifCond .ne 5, []), (18, .iconst (-1), []), (19, .ireturn, []), (20, .aload_n 0, []), (21, .iload_n 1, []), (22, .invokevirtual 393, [278, 1, 1859, 0]), (25, .aload_n 0, []), (26, .iload_n 1, []), (27, .invokevirtual 364, [258, 1, 1768, 0]), (30, .lstore_n 3, []), (31, .lload_n 3, []), (32, .aload_n 0, []), (33, .getfield 45, [12, 27, 1408, 2, 1]), (36, .iload_n 2, []), (37, .laload, []), (38, .lmul, []), (39, .lstore 5, []), (41, .lload 5, []), (43, .ldc2_w 339, [1000000, 1780]), (46, .lload_n 3, []), (47, .lsub, []), (48, .aload_n 0, []), (49, .getfield 45, [12, 27, 1408, 2, 1]), (52, .iload_n 2, []), (53, .iconst 1, []), (54, .iadd, []), (55, .laload, []), (56, .lmul, []), (57, .ladd, []), (58, .lstore 7, []), (60, .lload 7, []), (62, .lconst 0, []), (63, .lcmp, []), (64, .ifCond .ne 7, []), (67, .iconst (-1), []), (68, .goto 13, []), (71, .ldc2_w 339, [1000000, 1780]), (74, .lload 5, []), (76, .lmul, []), (77, .lload 7, []), (79, .ldiv, []), (80, .l2i, []), (81, .ireturn, [])]
/-- IsHeInModel.counted -/
def me279 : mM := (1, ⟨"IsHeInModel", "counted", "(II)I"⟩, prog_14_method_88_code, 9, (some .int), 12, [1858, 141, 1856, 1857], mc279)
def mc280 : List mI := [(0, .aload_n 0, []), (1, .iload_n 1, []), (2, .invokevirtual 75, [196, 1, 1507, 0]), (5, .ifCond .eq 12, []), (8, .iload_n 2, []), (9, .iconst 0, []), (10, .iconst 1, []), (11, .invokestatic 63, [193, 3, 1500, 0]), (14, .ifCond .ne 5, []), (17, .iconst (-1), []), (18, .ireturn, []), (19, .aload_n 0, []), (20, .iload_n 1, []), (21, .invokevirtual 364, [258, 1, 1768, 0]), (24, .lstore_n 3, []), (25, .iconst 0, []), (26, .istore 5, []), (28, .lload_n 3, []), (29, .lstore 6, []), (31, .iconst 0, []), (32, .istore 8, []), (34, .iload 8, []), (36, .bipush 23, []), (38, .if_icmp .ge 122, []), (41, .aload_n 0, []), (42, .bipush 20, []), (44, .iload_n 1, []), (45, .aload_n 0, []), (46, .getfield 7, [12, 0, 1381, 2, 1]), (49, .iconst 0, []), (50, .iaload, []), (51, .iload 8, []), (53, .iadd, []), (54, .aload_n 0, []), (55, .getfield 7, [12, 0, 1381, 2, 1]), (58, .bipush 113, []), (60, .iaload, []), (61, .aload_n 0, []), (62, .getfield 7, [12, 0, 1381, 2, 1]), (65, .bipush 27, []), (67, .iload_n 1, []), (68, .iadd, []), (69, .iaload, []), (70, .invokevirtual 304, [243, 5, 1701, 0]), (73, .i2l, []), (74, .lstore 9, []), (76, .aload_n 0, []), (77, .bipush 21, []), (79, .iload_n 1, []), (80, .aload_n 0, []), (81, .getfield 7, [12, 0, 1381, 2, 1]), (84, .iconst 0, []), (85, .iaload, []), (86, .iload 8, []), (88, .iadd, []), (89, .aload_n 0, []), (90, .getfield 7, [12, 0, 1381, 2, 1]), (93, .bipush 113, []), (95, .iaload, []), (96, .aload_n 0, []), (97, .getfield 7, [12, 0, 1381, 2, 1]), (100, .bipush 27, []), (102, .iload_n 1, []), (103, .iadd, []), (104, .iaload, []), (105, .invokevirtual 304, [243, 5, 1701, 0]), (108, .i2l, []), (109, .lstore 11, []), (111, .lload_n 3, []), (112, .lload_n 3, []), (113, .lload 9, []), (115, .lmul, []), (116, .ldc2_w 349, [1000, 1798]), (119, .ldiv, []), (120, .lsub, []), (121, .ldc2_w 339, [1000000, 1780]), (124, .lload_n 3, []), (125, .lsub, []), (126, .lload 11, []), (128, .lmul, []), (129, .ldc2_w 349, [1000, 1798]), (132, .ldiv, []), (133, .ladd, []), (134, .lstore_n 3, []), (135, .lload_n 3, []), (136, .lload 6, []), (138, .lcmp, []), (139, .ifCond .gt 6, []), (142, .goto 12, []), (145, .lload_n 3, []), (146, .lstore 6, []), (148, .iload 8, []), (150, .iconst 1, []), (151, .iadd, []), (152, .istore 5, []), (154, .iinc 8 1, []), (157, .goto (-123), []), (160, .iload_n 2, []), (161, .ifCond .ne 8, []), (164, .iload 5, []), (166, .goto 6, []), (169, .lload 6, []), (171, .l2i, []), (172, .ireturn, [])]
/-- IsHeInModel.visit -/
def me280 : mM := (1, ⟨"IsHeInModel", "visit", "(II)I"⟩, prog_14_method_89_code, 13, (some .int), 12, [1866, 141, 1864, 1865], mc280)
def mc281 : List mI := [(0, .iconst 0, []), (1, .istore_n 2, []), (2, .iconst 0, []), (3, .istore_n 3, []), (4, .iload_n 3, []), (5, .aload_n 0, []), (6, .getfield 7, [12, 0, 1381, 2, 1]), (9, .bipush 112, []), (11, .iaload, []), (12, .if_icmp .ge 53, []), (15, .iload_n 2, []), (16, .aload_n 0, []), (17, .aload_n 0, []), (18, .getfield 7, [12, 0, 1381, 2, 1]), (21, .iconst 3, []), (22, .iload_n 3, []), (23, .iadd, []), (24, .iaload, []), (25, .iconst 1, []), (26, .if_icmp .ne 8, []), (29, .bipush 21, []), (31, .goto 5, []), (34, .bipush 20, []), (36, .iload_n 3, []), (37, .iload_n 1, []), (38, .aload_n 0, []), (39, .getfield 7, [12, 0, 1381, 2, 1]), (42, .bipush 113, []), (44, .iaload, []), (45, .aload_n 0, []), (46, .getfield 7, [12, 0, 1381, 2, 1]), (49, .bipush 27, []), (51, .iload_n 3, []), (52, .iadd, []), (53, .iaload, []), (54, .invokevirtual 304, [243, 5, 1701, 0]), (57, .iadd, []), (58, .istore_n 2, []), (59, .iinc 3 1, []), (62, .goto (-58), []), (65, .iload_n 2, []), (66, .ireturn, [])]
/-- IsHeInModel.movesIn -/
def me281 : mM := (1, ⟨"IsHeInModel", "movesIn", "(I)I"⟩, prog_14_method_90_code, 4, (some .int), 12, [1874, 141, 1873, 112], mc281)
def mc282 : List mI := [(0, .aload_n 0, []), (1, .aload_n 0, []), (2, .getfield 7, [12, 0, 1381, 2, 1]), (5, .iconst 0, []), (6, .iaload, []), (7, .invokevirtual 397, [281, 1, 1871, 0]), (10, .sipush 1000, []), (13, .idiv, []), (14, .ireturn, [])]
/-- IsHeInModel.expect -/
def me282 : mM := (1, ⟨"IsHeInModel", "expect", "()I"⟩, prog_14_method_91_code, 1, (some .int), 12, [1870, 141, 1868, 1869], mc282)
def mc283 : List mI := [(0, .iload_n 1, []), (1, .iconst 0, []), (2, .iconst 1, []), (3, .invokestatic 63, [193, 3, 1500, 0]), (6, .ifCond .ne 5, []), (9, .iconst (-1), []), (10, .ireturn, []), (11, .aload_n 0, []), (12, .getfield 7, [12, 0, 1381, 2, 1]), (15, .iconst 0, []), (16, .iaload, []), (17, .bipush 24, []), (19, .idiv, []), (20, .bipush 24, []), (22, .imul, []), (23, .istore_n 2, []), (24, .iconst 0, []), (25, .istore_n 3, []), (26, .iconst 1, []), (27, .istore 4, []), (29, .iload 4, []), (31, .bipush 24, []), (33, .if_icmp .ge 30, []), (36, .aload_n 0, []), (37, .iload_n 2, []), (38, .iload 4, []), (40, .iadd, []), (41, .invokevirtual 397, [281, 1, 1871, 0]), (44, .aload_n 0, []), (45, .iload_n 2, []), (46, .iload_n 3, []), (47, .iadd, []), (48, .invokevirtual 397, [281, 1, 1871, 0]), (51, .if_icmp .le 6, []), (54, .iload 4, []), (56, .istore_n 3, []), (57, .iinc 4 1, []), (60, .goto (-31), []), (63, .iload_n 1, []), (64, .ifCond .ne 7, []), (67, .iload_n 3, []), (68, .goto 14, []), (71, .aload_n 0, []), (72, .iload_n 2, []), (73, .iload_n 3, []), (74, .iadd, []), (75, .invokevirtual 397, [281, 1, 1871, 0]), (78, .sipush 1000, []), (81, .idiv, []), (82, .ireturn, [])]
/-- IsHeInModel.busy -/
def me283 : mM := (1, ⟨"IsHeInModel", "busy", "(I)I"⟩, prog_14_method_92_code, 5, (some .int), 12, [1878, 141, 1876, 1877], mc283)
def mc284 : List mI := [(0, .iload_n 1, []), (1, .iconst 0, []), (2, .iconst 2, []), (3, .invokestatic 63, [193, 3, 1500, 0]), (6, .ifCond .ne 5, []), (9, .iconst (-1), []), (10, .ireturn, []), (11, .iconst 0, []), (12, .istore_n 2, []), (13, .iconst 0, []), (14, .istore_n 3, []), (15, .lconst 0, []), (16, .lstore 4, []), (18, .iconst 0, []), (19, .istore 6, []), (21, .iload 6, []), (23, .aload_n 0, []), (24, .getfield 7, [12, 0, 1381, 2, 1]), (27, .bipush 112, []), (29, .iaload, []), (30, .if_icmp .ge 56, []), (33, .aload_n 0, []), (34, .getfield 7, [12, 0, 1381, 2, 1]), (37, .bipush 15, []), (39, .iload 6, []), (41, .iadd, []), (42, .iaload, []), (43, .iconst (-1), []), (44, .if_icmp .eq 6, []), (47, .goto 33, []), (50, .iinc 2 1, []), (53, .iload_n 3, []), (54, .aload_n 0, []), (55, .getfield 7, [12, 0, 1381, 2, 1]), (58, .iconst 3, []), (59, .iload 6, []), (61, .iadd, []), (62, .iaload, []), (63, .iadd, []), (64, .istore_n 3, []), (65, .lload 4, []), (67, .ldc2_w 339, [1000000, 1780]), (70, .aload_n 0, []), (71, .iload 6, []), (73, .invokevirtual 364, [258, 1, 1768, 0]), (76, .lsub, []), (77, .ladd, []), (78, .lstore 4, []), (80, .iinc 6 1, []), (83, .goto (-62), []), (86, .iload_n 1, []), (87, .ifCond .ne 7, []), (90, .iload_n 2, []), (91, .goto 19, []), (94, .iload_n 1, []), (95, .iconst 1, []), (96, .if_icmp .ne 13, []), (99, .lload 4, []), (101, .ldc2_w 339, [1000000, 1780]), (104, .ldiv, []), (105, .l2i, []), (106, .goto 4, []), (109, .iload_n 3, []), (110, .ireturn, [])]
/-- IsHeInModel.lack -/
def me284 : mM := (1, ⟨"IsHeInModel", "lack", "(I)I"⟩, prog_14_method_93_code, 7, (some .int), 12, [1882, 141, 1880, 1881], mc284)
def mc285 : List mI := [(0, .iload_n 1, []), (1, .iconst 0, []), (2, .iconst 3, []), (3, .invokestatic 63, [193, 3, 1500, 0]), (6, .ifCond .ne 5, []), (9, .iconst (-1), []), (10, .ireturn, []), (11, .ldc2_w 339, [1000000, 1780]), (14, .lstore_n 2, []), (15, .iconst 0, []), (16, .istore 4, []), (18, .iload 4, []), (20, .aload_n 0, []), (21, .getfield 7, [12, 0, 1381, 2, 1]), (24, .bipush 112, []), (26, .iaload, []), (27, .if_icmp .ge 44, []), (30, .aload_n 0, []), (31, .getfield 7, [12, 0, 1381, 2, 1]), (34, .bipush 119, []), (36, .iload 4, []), (38, .iadd, []), (39, .iaload, []), (40, .iload_n 1, []), (41, .if_icmp .ne 22, []), (44, .lload_n 2, []), (45, .ldc2_w 339, [1000000, 1780]), (48, .aload_n 0, []), (49, .iload 4, []), (51, .invokevirtual 364, [258, 1, 1768, 0]), (54, .lsub, []), (55, .lmul, []), (56, .ldc2_w 339, [1000000, 1780]), (59, .ldiv, []), (60, .goto 4, []), (63, .lload_n 2, []), (64, .lstore_n 2, []), (65, .iinc 4 1, []), (68, .goto (-50), []), (71, .lload_n 2, []), (72, .l2i, []), (73, .ireturn, [])]
/-- IsHeInModel.empty -/
def me285 : mM := (1, ⟨"IsHeInModel", "empty", "(I)I"⟩, prog_14_method_94_code, 5, (some .int), 12, [1886, 141, 1884, 1885], mc285)
def mc286 : List mI := [(0, .iconst (-1), []), (1, .istore_n 1, []), (2, .iconst 0, []), (3, .istore_n 2, []), (4, .iload_n 2, []), (5, .aload_n 0, []), (6, .getfield 7, [12, 0, 1381, 2, 1]), (9, .bipush 112, []), (11, .iaload, []), (12, .if_icmp .ge 62, []), (15, .aload_n 0, []), (16, .getfield 7, [12, 0, 1381, 2, 1]), (19, .bipush 15, []), (21, .iload_n 2, []), (22, .iadd, []), (23, .iaload, []), (24, .iconst (-1), []), (25, .if_icmp .ne 43, []), (28, .aload_n 0, []), (29, .getfield 7, [12, 0, 1381, 2, 1]), (32, .iconst 3, []), (33, .iload_n 2, []), (34, .iadd, []), (35, .iaload, []), (36, .iconst 1, []), (37, .if_icmp .ne 31, []), (40, .iload_n 1, []), (41, .iconst (-1), []), (42, .if_icmp .eq 24, []), (45, .aload_n 0, []), (46, .getfield 7, [12, 0, 1381, 2, 1]), (49, .bipush 27, []), (51, .iload_n 2, []), (52, .iadd, []), (53, .iaload, []), (54, .aload_n 0, []), (55, .getfield 7, [12, 0, 1381, 2, 1]), (58, .bipush 27, []), (60, .iload_n 1, []), (61, .iadd, []), (62, .iaload, []), (63, .if_icmp .le 5, []), (66, .iload_n 2, []), (67, .istore_n 1, []), (68, .iinc 2 1, []), (71, .goto (-67), []), (74, .iload_n 1, []), (75, .ireturn, [])]
/-- IsHeInModel.thief -/
def me286 : mM := (1, ⟨"IsHeInModel", "thief", "()I"⟩, prog_14_method_95_code, 3, (some .int), 12, [1890, 141, 1888, 1889], mc286)
def mc287 : List mI := [(0, .aload_n 0, []), (1, .aload_n 0, []), (2, .iload_n 1, []), (3, .iconst 0, []), (4, .invokevirtual 400, [290, 2, 1899, 0]), (7, .invokevirtual 364, [258, 1, 1768, 0]), (10, .lstore_n 3, []), (11, .aload_n 0, []), (12, .aload_n 0, []), (13, .iload_n 2, []), (14, .iconst 0, []), (15, .invokevirtual 400, [290, 2, 1899, 0]), (18, .invokevirtual 364, [258, 1, 1768, 0]), (21, .lstore 5, []), (23, .lload_n 3, []), (24, .lload 5, []), (26, .lcmp, []), (27, .ifCond .lt 15, []), (30, .lload_n 3, []), (31, .lload 5, []), (33, .lcmp, []), (34, .ifCond .ne 12, []), (37, .iload_n 1, []), (38, .iload_n 2, []), (39, .if_icmp .ge 7, []), (42, .iconst 1, []), (43, .goto 4, []), (46, .iconst 0, []), (47, .ireturn, [])]
/-- IsHeInModel.isKnockedAhead -/
def me287 : mM := (1, ⟨"IsHeInModel", "isKnockedAhead", "(II)Z"⟩, prog_14_method_96_code, 7, (some .boolean), 12, [1898, 141, 1897, 113], mc287)
def mc288 : List mI := [(0, .iconst 0, []), (1, .istore_n 2, []), (2, .iload_n 2, []), (3, .aload_n 0, []), (4, .getfield 7, [12, 0, 1381, 2, 1]), (7, .bipush 118, []), (9, .iaload, []), (10, .if_icmp .ge 63, []), (13, .iconst 0, []), (14, .istore_n 3, []), (15, .iconst 0, []), (16, .istore 4, []), (18, .iload 4, []), (20, .aload_n 0, []), (21, .getfield 7, [12, 0, 1381, 2, 1]), (24, .bipush 118, []), (26, .iaload, []), (27, .if_icmp .ge 33, []), (30, .iload_n 3, []), (31, .iload 4, []), (33, .iload_n 2, []), (34, .if_icmp .eq 17, []), (37, .aload_n 0, []), (38, .iload 4, []), (40, .iload_n 2, []), (41, .invokevirtual 403, [287, 2, 1895, 0]), (44, .ifCond .eq 7, []), (47, .iconst 1, []), (48, .goto 4, []), (51, .iconst 0, []), (52, .iadd, []), (53, .istore_n 3, []), (54, .iinc 4 1, []), (57, .goto (-39), []), (60, .iload_n 3, []), (61, .iload_n 1, []), (62, .if_icmp .ne 5, []), (65, .iload_n 2, []), (66, .ireturn, []), (67, .iinc 2 1, []), (70, .goto (-68), []), (73, .iconst (-1), []), (74, .ireturn, [])]
/-- IsHeInModel.knocks -/
def me288 : mM := (1, ⟨"IsHeInModel", "knocks", "(I)I"⟩, prog_14_method_97_code, 5, (some .int), 12, [1894, 141, 1892, 1893], mc288)
def mc289 : List mI := [(0, .iload_n 1, []), (1, .iconst (-1), []), (2, .if_icmp .ne 13, []), (5, .aload_n 0, []), (6, .getfield 7, [12, 0, 1381, 2, 1]), (9, .bipush 118, []), (11, .iconst 0, []), (12, .iastore, []), (13, .iconst 0, []), (14, .ireturn, []), (15, .aload_n 0, []), (16, .iload_n 1, []), (17, .invokevirtual 75, [196, 1, 1507, 0]), (20, .ifCond .eq 47, []), (23, .iload_n 2, []), (24, .iconst 1, []), (25, .bipush 99, []), (27, .invokestatic 63, [193, 3, 1500, 0]), (30, .ifCond .eq 37, []), (33, .iload_n 3, []), (34, .iconst 1, []), (35, .sipush 999, []), (38, .invokestatic 63, [193, 3, 1500, 0]), (41, .ifCond .eq 26, []), (44, .iload 4, []), (46, .iconst 0, []), (47, .bipush 99, []), (49, .invokestatic 63, [193, 3, 1500, 0]), (52, .ifCond .eq 15, []), (55, .aload_n 0, []), (56, .getfield 7, [12, 0, 1381, 2, 1]), (59, .bipush 118, []), (61, .iaload, []), (62, .bipush 8, []), (64, .if_icmp .ne 5, []), (67, .iconst (-1), []), (68, .ireturn, []), (69, .sipush 203, []), (72, .iconst 4, []), (73, .aload_n 0, []), (74, .getfield 7, [12, 0, 1381, 2, 1]), (77, .bipush 118, []), (79, .iaload, []), (80, .imul, []), (81, .iadd, []), (82, .istore 5, []), (84, .aload_n 0, []), (85, .getfield 7, [12, 0, 1381, 2, 1]), (88, .iload 5, []), (90, .iconst 0, []), (91, .iadd, []), (92, .iload_n 1, []), (93, .iastore, []), (94, .aload_n 0, []), (95, .getfield 7, [12, 0, 1381, 2, 1]), (98, .iload 5, []), (100, .iconst 1, []), (101, .iadd, []), (102, .iload_n 2, []), (103, .iastore, []), (104, .aload_n 0, []), (105, .getfield 7, [12, 0, 1381, 2, 1]), (108, .iload 5, []), (110, .iconst 2, []), (111, .iadd, []), (112, .iload_n 3, []), (113, .iastore, []), (114, .aload_n 0, []), (115, .getfield 7, [12, 0, 1381, 2, 1]), (118, .iload 5, []), (120, .iconst 3, []), (121, .iadd, []), (122, .iload 4, []), (124, .iastore, []), (125, .aload_n 0, []), (126, .getfield 7, [12, 0, 1381, 2, 1]), (129, .bipush 118, []), (131, .dup2, []), (132, .iaload, []), (133, .iconst 1, []), (134, .iadd, []), (135, .iastore, []), (136, .aload_n 0, []), (137, .getfield 7, [12, 0, 1381, 2, 1]), (140, .bipush 118, []), (142, .iaload, []), (143, .ireturn, [])]
/-- IsHeInModel.room -/
def me289 : mM := (1, ⟨"IsHeInModel", "room", "(IIII)I"⟩, prog_14_method_98_code, 6, (some .int), 12, [1906, 141, 1904, 1905], mc289)
def mc290 : List mI := [(0, .aload_n 0, []), (1, .getfield 7, [12, 0, 1381, 2, 1]), (4, .sipush 203, []), (7, .iconst 4, []), (8, .iload_n 1, []), (9, .imul, []), (10, .iadd, []), (11, .iload_n 2, []), (12, .iadd, []), (13, .iaload, []), (14, .ireturn, [])]
/-- IsHeInModel.ofRoom -/
def me290 : mM := (1, ⟨"IsHeInModel", "ofRoom", "(II)I"⟩, prog_14_method_99_code, 3, (some .int), 12, [1902, 141, 1901, 114], mc290)
def mc291 : List mI := [(0, .iconst 0, []), (1, .istore_n 2, []), (2, .iload_n 2, []), (3, .aload_n 0, []), (4, .getfield 7, [12, 0, 1381, 2, 1]), (7, .bipush 118, []), (9, .iaload, []), (10, .if_icmp .ge 95, []), (13, .iload_n 1, []), (14, .iload_n 2, []), (15, .ishr, []), (16, .iconst 1, []), (17, .iand, []), (18, .ifCond .ne 6, []), (21, .goto 78, []), (24, .iconst 0, []), (25, .istore_n 3, []), (26, .iconst 0, []), (27, .istore 4, []), (29, .iload 4, []), (31, .aload_n 0, []), (32, .getfield 7, [12, 0, 1381, 2, 1]), (35, .bipush 118, []), (37, .iaload, []), (38, .if_icmp .ge 49, []), (41, .iload_n 3, []), (42, .iload_n 1, []), (43, .iload 4, []), (45, .ishr, []), (46, .iconst 1, []), (47, .iand, []), (48, .iconst 1, []), (49, .if_icmp .ne 29, []), (52, .aload_n 0, []), (53, .iload 4, []), (55, .iconst 2, []), (56, .invokevirtual 400, [290, 2, 1899, 0]), (59, .aload_n 0, []), (60, .iload_n 2, []), (61, .iconst 2, []), (62, .invokevirtual 400, [290, 2, 1899, 0]), (65, .if_icmp .gt 13, []), (68, .aload_n 0, []), (69, .iload 4, []), (71, .iconst 1, []), (72, .invokevirtual 400, [290, 2, 1899, 0]), (75, .goto 4, []), (78, .iconst 0, []), (79, .iadd, []), (80, .istore_n 3, []), (81, .iinc 4 1, []), (84, .goto (-55), []), (87, .iload_n 3, []), (88, .aload_n 0, []), (89, .iload_n 2, []), (90, .iconst 2, []), (91, .invokevirtual 400, [290, 2, 1899, 0]), (94, .if_icmp .le 5, []), (97, .iconst 0, []), (98, .ireturn, []), (99, .iinc 2 1, []), (102, .goto (-100), []), (105, .iconst 1, []), (106, .ireturn, [])]
/-- IsHeInModel.canDo -/
def me291 : mM := (1, ⟨"IsHeInModel", "canDo", "(I)Z"⟩, prog_14_method_100_code, 5, (some .boolean), 12, [1914, 141, 1913, 115], mc291)
def mc292 : List mI := [(0, .iconst 0, []), (1, .istore_n 2, []), (2, .iconst 0, []), (3, .istore_n 3, []), (4, .iload_n 3, []), (5, .aload_n 0, []), (6, .getfield 7, [12, 0, 1381, 2, 1]), (9, .bipush 118, []), (11, .iaload, []), (12, .if_icmp .ge 31, []), (15, .iload_n 2, []), (16, .iload_n 1, []), (17, .iload_n 3, []), (18, .ishr, []), (19, .iconst 1, []), (20, .iand, []), (21, .iconst 1, []), (22, .if_icmp .ne 12, []), (25, .aload_n 0, []), (26, .iload_n 3, []), (27, .iconst 3, []), (28, .invokevirtual 400, [290, 2, 1899, 0]), (31, .goto 4, []), (34, .iconst 0, []), (35, .iadd, []), (36, .istore_n 2, []), (37, .iinc 3 1, []), (40, .goto (-36), []), (43, .iload_n 2, []), (44, .ireturn, [])]
/-- IsHeInModel.worthOfSet -/
def me292 : mM := (1, ⟨"IsHeInModel", "worthOfSet", "(I)I"⟩, prog_14_method_101_code, 4, (some .int), 12, [1918, 141, 1917, 116], mc292)
def mc293 : List mI := [(0, .iconst 0, []), (1, .istore_n 1, []), (2, .iconst 0, []), (3, .istore_n 2, []), (4, .iload_n 2, []), (5, .bipush 12, []), (7, .if_icmp .ge 17, []), (10, .iload_n 1, []), (11, .iload_n 0, []), (12, .iload_n 2, []), (13, .ishr, []), (14, .iconst 1, []), (15, .iand, []), (16, .iadd, []), (17, .istore_n 1, []), (18, .iinc 2 1, []), (21, .goto (-17), []), (24, .iload_n 1, []), (25, .ireturn, [])]
/-- IsHeInModel.count -/
def me293 : mM := (0, ⟨"IsHeInModel", "count", "(I)I"⟩, prog_14_method_102_code, 3, (some .int), 12, [1921, 141, 1920, 0], mc293)
def mc294 : List mI := [(0, .iload_n 1, []), (1, .iconst 0, []), (2, .iconst 1, []), (3, .invokestatic 63, [193, 3, 1500, 0]), (6, .ifCond .ne 5, []), (9, .iconst (-1), []), (10, .ireturn, []), (11, .iconst 0, []), (12, .istore_n 2, []), (13, .iconst 1, []), (14, .istore_n 3, []), (15, .iload_n 3, []), (16, .iconst 1, []), (17, .aload_n 0, []), (18, .getfield 7, [12, 0, 1381, 2, 1]), (21, .bipush 118, []), (23, .iaload, []), (24, .ishl, []), (25, .if_icmp .ge 56, []), (28, .aload_n 0, []), (29, .iload_n 3, []), (30, .invokevirtual 406, [291, 1, 1911, 0]), (33, .ifCond .ne 6, []), (36, .goto 39, []), (39, .aload_n 0, []), (40, .iload_n 3, []), (41, .invokevirtual 409, [292, 1, 1915, 0]), (44, .aload_n 0, []), (45, .iload_n 2, []), (46, .invokevirtual 409, [292, 1, 1915, 0]), (49, .isub, []), (50, .istore 4, []), (52, .iload 4, []), (54, .ifCond .gt 19, []), (57, .iload 4, []), (59, .ifCond .ne 16, []), (62, .iload_n 3, []), (63, .invokestatic 412, [293, 1, 1919, 0]), (66, .iload_n 2, []), (67, .invokestatic 412, [293, 1, 1919, 0]), (70, .if_icmp .ge 5, []), (73, .iload_n 3, []), (74, .istore_n 2, []), (75, .iinc 3 1, []), (78, .goto (-63), []), (81, .iload_n 1, []), (82, .ifCond .ne 11, []), (85, .aload_n 0, []), (86, .iload_n 2, []), (87, .invokevirtual 409, [292, 1, 1915, 0]), (90, .goto 4, []), (93, .iload_n 2, []), (94, .ireturn, [])]
/-- IsHeInModel.done -/
def me294 : mM := (1, ⟨"IsHeInModel", "done", "(I)I"⟩, prog_14_method_103_code, 5, (some .int), 12, [1910, 141, 1908, 1909], mc294)
def mc295 : List mI := [(0, .iconst 0, []), (1, .istore_n 1, []), (2, .iconst 0, []), (3, .istore_n 2, []), (4, .iload_n 2, []), (5, .aload_n 0, []), (6, .getfield 7, [12, 0, 1381, 2, 1]), (9, .bipush 112, []), (11, .iaload, []), (12, .if_icmp .ge 53, []), (15, .iload_n 1, []), (16, .aload_n 0, []), (17, .getfield 7, [12, 0, 1381, 2, 1]), (20, .bipush 15, []), (22, .iload_n 2, []), (23, .iadd, []), (24, .iaload, []), (25, .iconst (-1), []), (26, .if_icmp .eq 30, []), (29, .aload_n 0, []), (30, .getfield 7, [12, 0, 1381, 2, 1]), (33, .bipush 15, []), (35, .iload_n 2, []), (36, .iadd, []), (37, .iaload, []), (38, .iload_n 2, []), (39, .if_icmp .eq 17, []), (42, .iconst 1, []), (43, .aload_n 0, []), (44, .getfield 7, [12, 0, 1381, 2, 1]), (47, .bipush 15, []), (49, .iload_n 2, []), (50, .iadd, []), (51, .iaload, []), (52, .ishl, []), (53, .goto 4, []), (56, .iconst 0, []), (57, .ior, []), (58, .istore_n 1, []), (59, .iinc 2 1, []), (62, .goto (-58), []), (65, .iload_n 1, []), (66, .ireturn, [])]
/-- IsHeInModel.swappedSet -/
def me295 : mM := (1, ⟨"IsHeInModel", "swappedSet", "()I"⟩, prog_14_method_104_code, 3, (some .int), 12, [1933, 141, 1932, 117], mc295)
def mc296 : List mI := [(0, .aload_n 0, []), (1, .getfield 7, [12, 0, 1381, 2, 1]), (4, .bipush 15, []), (6, .iload_n 1, []), (7, .iadd, []), (8, .iaload, []), (9, .istore_n 2, []), (10, .iload_n 2, []), (11, .iconst (-1), []), (12, .if_icmp .eq 21, []), (15, .iload_n 2, []), (16, .iload_n 1, []), (17, .if_icmp .le 16, []), (20, .aload_n 0, []), (21, .getfield 7, [12, 0, 1381, 2, 1]), (24, .bipush 15, []), (26, .iload_n 2, []), (27, .iadd, []), (28, .iaload, []), (29, .istore_n 2, []), (30, .goto (-20), []), (33, .iload_n 2, []), (34, .iload_n 1, []), (35, .if_icmp .ne 7, []), (38, .iconst 1, []), (39, .goto 4, []), (42, .iconst 0, []), (43, .ireturn, [])]
/-- IsHeInModel.leadsRing -/
def me296 : mM := (1, ⟨"IsHeInModel", "leadsRing", "(I)Z"⟩, prog_14_method_105_code, 3, (some .boolean), 12, [1941, 141, 1940, 119], mc296)
def mc297 : List mI := [(0, .aload_n 0, []), (1, .iload_n 1, []), (2, .invokevirtual 75, [196, 1, 1507, 0]), (5, .ifCond .ne 5, []), (8, .iconst (-1), []), (9, .ireturn, []), (10, .iconst 0, []), (11, .istore_n 2, []), (12, .iload_n 1, []), (13, .istore_n 3, []), (14, .iload_n 3, []), (15, .iconst (-1), []), (16, .if_icmp .eq 39, []), (19, .iload_n 2, []), (20, .aload_n 0, []), (21, .getfield 7, [12, 0, 1381, 2, 1]), (24, .bipush 112, []), (26, .iaload, []), (27, .if_icmp .gt 28, []), (30, .iload_n 2, []), (31, .ifCond .eq 8, []), (34, .iload_n 3, []), (35, .iload_n 1, []), (36, .if_icmp .eq 19, []), (39, .aload_n 0, []), (40, .getfield 7, [12, 0, 1381, 2, 1]), (43, .bipush 15, []), (45, .iload_n 3, []), (46, .iadd, []), (47, .iaload, []), (48, .istore_n 3, []), (49, .iinc 2 1, []), (52, .goto (-38), []), (55, .iload_n 3, []), (56, .iload_n 1, []), (57, .if_icmp .ne 12, []), (60, .iload_n 2, []), (61, .iconst 1, []), (62, .if_icmp .le 7, []), (65, .iload_n 2, []), (66, .goto 4, []), (69, .iconst 0, []), (70, .ireturn, [])]
/-- IsHeInModel.ring -/
def me297 : mM := (1, ⟨"IsHeInModel", "ring", "(I)I"⟩, prog_14_method_106_code, 4, (some .int), 12, [1925, 141, 1923, 1924], mc297)
def mc298 : List mI := [(0, .iconst 0, []), (1, .istore_n 1, []), (2, .iconst 0, []), (3, .istore_n 2, []), (4, .iload_n 2, []), (5, .aload_n 0, []), (6, .getfield 7, [12, 0, 1381, 2, 1]), (9, .bipush 112, []), (11, .iaload, []), (12, .if_icmp .ge 51, []), (15, .iload_n 1, []), (16, .aload_n 0, []), (17, .getfield 7, [12, 0, 1381, 2, 1]), (20, .bipush 15, []), (22, .iload_n 2, []), (23, .iadd, []), (24, .iaload, []), (25, .iconst (-1), []), (26, .if_icmp .eq 28, []), (29, .aload_n 0, []), (30, .getfield 7, [12, 0, 1381, 2, 1]), (33, .bipush 15, []), (35, .iload_n 2, []), (36, .iadd, []), (37, .iaload, []), (38, .iload_n 2, []), (39, .if_icmp .eq 15, []), (42, .aload_n 0, []), (43, .iload_n 2, []), (44, .invokevirtual 415, [296, 1, 1938, 0]), (47, .ifCond .eq 7, []), (50, .iconst 1, []), (51, .goto 4, []), (54, .iconst 0, []), (55, .iadd, []), (56, .istore_n 1, []), (57, .iinc 2 1, []), (60, .goto (-56), []), (63, .iload_n 1, []), (64, .ireturn, [])]
/-- IsHeInModel.ringMany -/
def me298 : mM := (1, ⟨"IsHeInModel", "ringMany", "()I"⟩, prog_14_method_107_code, 3, (some .int), 12, [1937, 141, 1936, 118], mc298)
def mc299 : List mI := [(0, .iload_n 1, []), (1, .tableswitch 50 0 2 #[27, 32, 45], [27]), (28, .aload_n 0, []), (29, .invokevirtual 418, [295, 0, 1930, 0]), (32, .ireturn, []), (33, .aload_n 0, []), (34, .invokevirtual 418, [295, 0, 1930, 0]), (37, .invokestatic 412, [293, 1, 1919, 0]), (40, .aload_n 0, []), (41, .invokevirtual 421, [298, 0, 1934, 0]), (44, .iadd, []), (45, .ireturn, []), (46, .aload_n 0, []), (47, .invokevirtual 421, [298, 0, 1934, 0]), (50, .ireturn, []), (51, .iconst (-1), []), (52, .ireturn, [])]
/-- IsHeInModel.swapped -/
def me299 : mM := (1, ⟨"IsHeInModel", "swapped", "(I)I"⟩, prog_14_method_108_code, 2, (some .int), 12, [1929, 141, 1927, 1928], mc299)
def mc300 : List mI := [(0, .iconst 0, []), (1, .istore_n 1, []), (2, .iload_n 1, []), (3, .iconst 4, []), (4, .if_icmp .ge 16, []), (7, .aload_n 0, []), (8, .getfield 48, [12, 28, 1409, 2, 1]), (11, .iload_n 1, []), (12, .lconst 0, []), (13, .lastore, []), (14, .iinc 1 1, []), (17, .goto (-15), []), (20, .iconst 0, []), (21, .istore_n 1, []), (22, .iload_n 1, []), (23, .aload_n 0, []), (24, .getfield 7, [12, 0, 1381, 2, 1]), (27, .bipush 112, []), (29, .iaload, []), (30, .if_icmp .ge 31, []), (33, .aload_n 0, []), (34, .getfield 48, [12, 28, 1409, 2, 1]), (37, .aload_n 0, []), (38, .getfield 7, [12, 0, 1381, 2, 1]), (41, .bipush 119, []), (43, .iload_n 1, []), (44, .iadd, []), (45, .iaload, []), (46, .dup2, []), (47, .laload, []), (48, .aload_n 0, []), (49, .iload_n 1, []), (50, .invokevirtual 364, [258, 1, 1768, 0]), (53, .ladd, []), (54, .lastore, []), (55, .iinc 1 1, []), (58, .goto (-36), []), (61, .return_, [])]
/-- IsHeInModel.laysFloors -/
def me300 : mM := (1, ⟨"IsHeInModel", "laysFloors", "()V"⟩, prog_14_method_109_code, 2, none, 12, [1949, 141, 1948, 120], mc300)
def mc301 : List mI := [(0, .lload 4, []), (2, .aload_n 0, []), (3, .getfield 424, [12, 31, 1412, 1, 0]), (6, .lcmp, []), (7, .ifCond .le 43, []), (10, .aload_n 0, []), (11, .lload 4, []), (13, .putfield 424, [12, 31, 1412, 1, 0]), (16, .aload_n 0, []), (17, .iload_n 1, []), (18, .putfield 428, [12, 32, 1413, 0, 0]), (21, .iconst 0, []), (22, .istore 6, []), (24, .iload 6, []), (26, .iload_n 1, []), (27, .if_icmp .ge 23, []), (30, .aload_n 0, []), (31, .getfield 54, [12, 30, 1411, 2, 1]), (34, .iload 6, []), (36, .aload_n 0, []), (37, .getfield 51, [12, 29, 1410, 2, 1]), (40, .iload 6, []), (42, .iaload, []), (43, .iastore, []), (44, .iinc 6 1, []), (47, .goto (-23), []), (50, .iconst 0, []), (51, .istore 6, []), (53, .iload 6, []), (55, .iconst 4, []), (56, .if_icmp .ge 119, []), (59, .iconst 0, []), (60, .istore 7, []), (62, .iconst 0, []), (63, .istore 8, []), (65, .iload 8, []), (67, .iload_n 1, []), (68, .if_icmp .ge 33, []), (71, .iload 7, []), (73, .ifCond .ne 15, []), (76, .aload_n 0, []), (77, .getfield 51, [12, 29, 1410, 2, 1]), (80, .iload 8, []), (82, .iaload, []), (83, .iload 6, []), (85, .if_icmp .ne 7, []), (88, .iconst 1, []), (89, .goto 4, []), (92, .iconst 0, []), (93, .istore 7, []), (95, .iinc 8 1, []), (98, .goto (-33), []), (101, .iconst 3, []), (102, .iconst 2, []), (103, .iload 6, []), (105, .iload_n 2, []), (106, .if_icmp .ge 10, []), (109, .iload_n 2, []), (110, .iload 6, []), (112, .isub, []), (113, .goto 7, []), (116, .iload 6, []), (118, .iload_n 2, []), (119, .isub, []), (120, .imul, []), (121, .iadd, []), (122, .istore 8, []), (124, .iload 7, []), (126, .ifCond .ne 43, []), (129, .iload 8, []), (131, .iload_n 3, []), (132, .if_icmp .le 6, []), (135, .goto 34, []), (138, .aload_n 0, []), (139, .getfield 51, [12, 29, 1410, 2, 1]), (142, .iload_n 1, []), (143, .iload 6, []), (145, .iastore, []), (146, .aload_n 0, []), (147, .iload_n 1, []), (148, .iconst 1, []), (149, .iadd, []), (150, .iload 6, []), (152, .iload_n 3, []), (153, .iload 8, []), (155, .isub, []), (156, .lload 4, []), (158, .aload_n 0, []), (159, .getfield 48, [12, 28, 1409, 2, 1]), (162, .iload 6, []), (164, .laload, []), (165, .ladd, []), (166, .invokevirtual 431, [301, 4, 1950, 0]), (169, .iinc 6 1, []), (172, .goto (-119), []), (175, .return_, [])]
/-- IsHeInModel.searches -/
def me301 : mM := (1, ⟨"IsHeInModel", "searches", "(IIIJ)V"⟩, prog_14_method_110_code, 9, none, 12, [1953, 141, 1952, 121], mc301)
def mc302 : List mI := [(0, .iload_n 1, []), (1, .iconst 1, []), (2, .bipush 99, []), (4, .invokestatic 63, [193, 3, 1500, 0]), (7, .ifCond .eq 23, []), (10, .iload_n 2, []), (11, .iconst 0, []), (12, .iconst 1, []), (13, .invokestatic 63, [193, 3, 1500, 0]), (16, .ifCond .ne 16, []), (19, .iload_n 2, []), (20, .bipush 10, []), (22, .bipush 13, []), (24, .invokestatic 63, [193, 3, 1500, 0]), (27, .ifCond .ne 5, []), (30, .iconst (-1), []), (31, .ireturn, []), (32, .aload_n 0, []), (33, .invokevirtual 435, [300, 0, 1946, 0]), (36, .aload_n 0, []), (37, .ldc2_w 359, [-1, 1789]), (40, .putfield 424, [12, 31, 1412, 1, 0]), (43, .aload_n 0, []), (44, .iconst 0, []), (45, .iconst 0, []), (46, .iload_n 1, []), (47, .lconst 0, []), (48, .invokevirtual 431, [301, 4, 1950, 0]), (51, .iload_n 2, []), (52, .ifCond .ne 13, []), (55, .aload_n 0, []), (56, .getfield 424, [12, 31, 1412, 1, 0]), (59, .ldc2_w 339, [1000000, 1780]), (62, .ldiv, []), (63, .l2i, []), (64, .ireturn, []), (65, .iload_n 2, []), (66, .iconst 1, []), (67, .if_icmp .ne 10, []), (70, .aload_n 0, []), (71, .getfield 428, [12, 32, 1413, 0, 0]), (74, .goto 27, []), (77, .iload_n 2, []), (78, .bipush 10, []), (80, .isub, []), (81, .aload_n 0, []), (82, .getfield 428, [12, 32, 1413, 0, 0]), (85, .if_icmp .ge 15, []), (88, .aload_n 0, []), (89, .getfield 54, [12, 30, 1411, 2, 1]), (92, .iload_n 2, []), (93, .bipush 10, []), (95, .isub, []), (96, .iaload, []), (97, .goto 4, []), (100, .iconst (-1), []), (101, .ireturn, [])]
/-- IsHeInModel.fire -/
def me302 : mM := (1, ⟨"IsHeInModel", "fire", "(II)I"⟩, prog_14_method_111_code, 3, (some .int), 12, [1945, 141, 1943, 1944], mc302)
def mc303 : List mI := [(0, .iconst 0, []), (1, .istore_n 1, []), (2, .iload_n 1, []), (3, .bipush 24, []), (5, .if_icmp .ge 168, []), (8, .aload_n 0, []), (9, .getfield 57, [12, 33, 1414, 2, 1]), (12, .iconst 2, []), (13, .iload_n 1, []), (14, .imul, []), (15, .iconst 0, []), (16, .iastore, []), (17, .aload_n 0, []), (18, .getfield 57, [12, 33, 1414, 2, 1]), (21, .iconst 2, []), (22, .iload_n 1, []), (23, .imul, []), (24, .iconst 1, []), (25, .iadd, []), (26, .iconst 0, []), (27, .iastore, []), (28, .aload_n 0, []), (29, .getfield 7, [12, 0, 1381, 2, 1]), (32, .iconst 0, []), (33, .iaload, []), (34, .bipush 24, []), (36, .idiv, []), (37, .bipush 24, []), (39, .imul, []), (40, .iload_n 1, []), (41, .iadd, []), (42, .istore_n 2, []), (43, .iconst 0, []), (44, .istore_n 3, []), (45, .iload_n 3, []), (46, .aload_n 0, []), (47, .getfield 7, [12, 0, 1381, 2, 1]), (50, .bipush 112, []), (52, .iaload, []), (53, .if_icmp .ge 114, []), (56, .aload_n 0, []), (57, .getfield 7, [12, 0, 1381, 2, 1]), (60, .iconst 3, []), (61, .iload_n 3, []), (62, .iadd, []), (63, .iaload, []), (64, .iconst 1, []), (65, .if_icmp .ne 6, []), (68, .goto 93, []), (71, .aload_n 0, []), (72, .bipush 20, []), (74, .iload_n 3, []), (75, .iload_n 2, []), (76, .aload_n 0, []), (77, .getfield 7, [12, 0, 1381, 2, 1]), (80, .bipush 113, []), (82, .iaload, []), (83, .aload_n 0, []), (84, .getfield 7, [12, 0, 1381, 2, 1]), (87, .bipush 27, []), (89, .iload_n 3, []), (90, .iadd, []), (91, .iaload, []), (92, .invokevirtual 304, [243, 5, 1701, 0]), (95, .istore 4, []), (97, .iload 4, []), (99, .aload_n 0, []), (100, .bipush 24, []), (102, .iload_n 3, []), (103, .iload_n 2, []), (104, .aload_n 0, []), (105, .getfield 7, [12, 0, 1381, 2, 1]), (108, .bipush 113, []), (110, .iaload, []), (111, .aload_n 0, []), (112, .getfield 7, [12, 0, 1381, 2, 1]), (115, .bipush 27, []), (117, .iload_n 3, []), (118, .iadd, []), (119, .iaload, []), (120, .invokevirtual 304, [243, 5, 1701, 0]), (123, .imul, []), (124, .sipush 1000, []), (127, .idiv, []), (128, .istore 5, []), (130, .aload_n 0, []), (131, .getfield 57, [12, 33, 1414, 2, 1]), (134, .iconst 2, []), (135, .iload_n 1, []), (136, .imul, []), (137, .dup2, []), (138, .iaload, []), (139, .iload 5, []), (141, .iadd, []), (142, .iastore, []), (143, .aload_n 0, []), (144, .getfield 57, [12, 33, 1414, 2, 1]), (147, .iconst 2, []), (148, .iload_n 1, []), (149, .imul, []), (150, .iconst 1, []), (151, .iadd, []), (152, .dup2, []), (153, .iaload, []), (154, .iload 4, []), (156, .iload 5, []), (158, .isub, []), (159, .iadd, []), (160, .iastore, []), (161, .iinc 3 1, []), (164, .goto (-119), []), (167, .iinc 1 1, []), (170, .goto (-168), []), (173, .return_, [])]
/-- IsHeInModel.laysDoors -/
def me303 : mM := (1, ⟨"IsHeInModel", "laysDoors", "()V"⟩, prog_14_method_112_code, 6, none, 12, [1961, 141, 1960, 122], mc303)
def mc304 : List mI := [(0, .aload_n 0, []), (1, .getfield 60, [12, 34, 1415, 2, 1]), (4, .iconst 2, []), (5, .iload_n 1, []), (6, .iconst 1, []), (7, .iadd, []), (8, .imul, []), (9, .iload_n 2, []), (10, .iadd, []), (11, .iaload, []), (12, .aload_n 0, []), (13, .getfield 60, [12, 34, 1415, 2, 1]), (16, .iconst 2, []), (17, .iload_n 1, []), (18, .iconst 1, []), (19, .iadd, []), (20, .imul, []), (21, .iconst 1, []), (22, .iadd, []), (23, .iload_n 2, []), (24, .isub, []), (25, .iaload, []), (26, .iload_n 3, []), (27, .isub, []), (28, .invokestatic 298, [195, 2, 1723, 0]), (31, .ireturn, [])]
/-- IsHeInModel.mostBy -/
def me304 : mM := (1, ⟨"IsHeInModel", "mostBy", "(III)I"⟩, prog_14_method_113_code, 4, (some .int), 12, [1965, 141, 1964, 123], mc304)
def mc305 : List mI := [(0, .iload_n 1, []), (1, .iconst 0, []), (2, .sipush 999, []), (5, .invokestatic 63, [193, 3, 1500, 0]), (8, .ifCond .eq 18, []), (11, .iload_n 2, []), (12, .ifCond .eq 16, []), (15, .iload_n 2, []), (16, .bipush 10, []), (18, .bipush 33, []), (20, .invokestatic 63, [193, 3, 1500, 0]), (23, .ifCond .ne 5, []), (26, .iconst (-1), []), (27, .ireturn, []), (28, .aload_n 0, []), (29, .invokevirtual 438, [303, 0, 1958, 0]), (32, .aload_n 0, []), (33, .getfield 60, [12, 34, 1415, 2, 1]), (36, .bipush 48, []), (38, .iconst 0, []), (39, .iastore, []), (40, .aload_n 0, []), (41, .getfield 60, [12, 34, 1415, 2, 1]), (44, .bipush 49, []), (46, .iconst 0, []), (47, .iastore, []), (48, .bipush 23, []), (50, .istore_n 3, []), (51, .iload_n 3, []), (52, .ifCond .lt 65, []), (55, .iconst 0, []), (56, .istore 4, []), (58, .iload 4, []), (60, .iconst 2, []), (61, .if_icmp .ge 50, []), (64, .aload_n 0, []), (65, .getfield 60, [12, 34, 1415, 2, 1]), (68, .iconst 2, []), (69, .iload_n 3, []), (70, .imul, []), (71, .iload 4, []), (73, .iadd, []), (74, .aload_n 0, []), (75, .getfield 57, [12, 33, 1414, 2, 1]), (78, .iconst 2, []), (79, .iload_n 3, []), (80, .imul, []), (81, .iload 4, []), (83, .iadd, []), (84, .iaload, []), (85, .iload_n 3, []), (86, .bipush 23, []), (88, .if_icmp .ne 7, []), (91, .iconst 0, []), (92, .goto 11, []), (95, .aload_n 0, []), (96, .iload_n 3, []), (97, .iload 4, []), (99, .iload_n 1, []), (100, .invokevirtual 441, [304, 3, 1962, 0]), (103, .iadd, []), (104, .iastore, []), (105, .iinc 4 1, []), (108, .goto (-50), []), (111, .iinc 3 (-1), []), (114, .goto (-63), []), (117, .iload_n 2, []), (118, .ifCond .ne 19, []), (121, .aload_n 0, []), (122, .getfield 60, [12, 34, 1415, 2, 1]), (125, .iconst 0, []), (126, .iaload, []), (127, .aload_n 0, []), (128, .getfield 60, [12, 34, 1415, 2, 1]), (131, .iconst 1, []), (132, .iaload, []), (133, .invokestatic 298, [195, 2, 1723, 0]), (136, .ireturn, []), (137, .aload_n 0, []), (138, .getfield 60, [12, 34, 1415, 2, 1]), (141, .iconst 0, []), (142, .iaload, []), (143, .aload_n 0, []), (144, .getfield 60, [12, 34, 1415, 2, 1]), (147, .iconst 1, []), (148, .iaload, []), (149, .if_icmp .lt 7, []), (152, .iconst 0, []), (153, .goto 4, []), (156, .iconst 1, []), (157, .istore_n 3, []), (158, .iconst 1, []), (159, .istore 4, []), (161, .iload 4, []), (163, .iload_n 2, []), (164, .bipush 10, []), (166, .isub, []), (167, .if_icmp .gt 62, []), (170, .aload_n 0, []), (171, .getfield 60, [12, 34, 1415, 2, 1]), (174, .iconst 2, []), (175, .iload 4, []), (177, .imul, []), (178, .iload_n 3, []), (179, .iadd, []), (180, .iaload, []), (181, .istore 5, []), (183, .aload_n 0, []), (184, .getfield 60, [12, 34, 1415, 2, 1]), (187, .iconst 2, []), (188, .iload 4, []), (190, .imul, []), (191, .iconst 1, []), (192, .iadd, []), (193, .iload_n 3, []), (194, .isub, []), (195, .iaload, []), (196, .iload_n 1, []), (197, .isub, []), (198, .istore 6, []), (200, .iload 6, []), (202, .iload 5, []), (204, .if_icmp .gt 15, []), (207, .iload 6, []), (209, .iload 5, []), (211, .if_icmp .ne 12, []), (214, .iload_n 3, []), (215, .iconst 1, []), (216, .if_icmp .ne 7, []), (219, .iconst 1, []), (220, .iload_n 3, []), (221, .isub, []), (222, .istore_n 3, []), (223, .iinc 4 1, []), (226, .goto (-65), []), (229, .iload_n 3, []), (230, .ireturn, [])]
/-- IsHeInModel.stands -/
def me305 : mM := (1, ⟨"IsHeInModel", "stands", "(II)I"⟩, prog_14_method_114_code, 7, (some .int), 12, [1957, 141, 1955, 1956], mc305)
def mc306 : List mI := [(0, .iconst (-1), []), (1, .istore_n 2, []), (2, .iconst 0, []), (3, .istore_n 3, []), (4, .iload_n 3, []), (5, .aload_n 0, []), (6, .getfield 7, [12, 0, 1381, 2, 1]), (9, .iconst 2, []), (10, .iaload, []), (11, .if_icmp .ge 53, []), (14, .sipush 235, []), (17, .iconst 5, []), (18, .iload_n 3, []), (19, .imul, []), (20, .iadd, []), (21, .istore 4, []), (23, .aload_n 0, []), (24, .getfield 7, [12, 0, 1381, 2, 1]), (27, .iload 4, []), (29, .iconst 1, []), (30, .iadd, []), (31, .iaload, []), (32, .ifCond .ne 26, []), (35, .aload_n 0, []), (36, .getfield 7, [12, 0, 1381, 2, 1]), (39, .iload 4, []), (41, .iconst 2, []), (42, .iadd, []), (43, .iaload, []), (44, .iload_n 1, []), (45, .if_icmp .ne 13, []), (48, .aload_n 0, []), (49, .getfield 7, [12, 0, 1381, 2, 1]), (52, .iload 4, []), (54, .iconst 4, []), (55, .iadd, []), (56, .iaload, []), (57, .istore_n 2, []), (58, .iinc 3 1, []), (61, .goto (-57), []), (64, .iload_n 2, []), (65, .ireturn, [])]
/-- IsHeInModel.lastSawBy -/
def me306 : mM := (1, ⟨"IsHeInModel", "lastSawBy", "(I)I"⟩, prog_14_method_115_code, 5, (some .int), 12, [1973, 141, 1972, 124], mc306)
def mc307 : List mI := [(0, .iload_n 1, []), (1, .iconst 0, []), (2, .iconst 3, []), (3, .invokestatic 63, [193, 3, 1500, 0]), (6, .ifCond .ne 5, []), (9, .iconst (-1), []), (10, .ireturn, []), (11, .iconst 0, []), (12, .istore_n 2, []), (13, .iconst 0, []), (14, .istore_n 3, []), (15, .iload_n 3, []), (16, .aload_n 0, []), (17, .getfield 7, [12, 0, 1381, 2, 1]), (20, .bipush 112, []), (22, .iaload, []), (23, .if_icmp .ge 40, []), (26, .iload_n 2, []), (27, .aload_n 0, []), (28, .getfield 7, [12, 0, 1381, 2, 1]), (31, .iconst 3, []), (32, .iload_n 3, []), (33, .iadd, []), (34, .iaload, []), (35, .iconst 1, []), (36, .if_icmp .ne 18, []), (39, .aload_n 0, []), (40, .iload_n 3, []), (41, .invokevirtual 444, [306, 1, 1970, 0]), (44, .iload_n 1, []), (45, .if_icmp .ne 9, []), (48, .iconst 1, []), (49, .iload_n 3, []), (50, .ishl, []), (51, .goto 4, []), (54, .iconst 0, []), (55, .ior, []), (56, .istore_n 2, []), (57, .iinc 3 1, []), (60, .goto (-45), []), (63, .iload_n 2, []), (64, .ireturn, [])]
/-- IsHeInModel.tellsOn -/
def me307 : mM := (1, ⟨"IsHeInModel", "tellsOn", "(I)I"⟩, prog_14_method_116_code, 4, (some .int), 12, [1969, 141, 1967, 1968], mc307)
def mc308 : List mI := [(0, .aload_n 0, []), (1, .iload_n 1, []), (2, .invokevirtual 75, [196, 1, 1507, 0]), (5, .ifCond .eq 12, []), (8, .iload_n 2, []), (9, .iconst 0, []), (10, .iconst 1, []), (11, .invokestatic 63, [193, 3, 1500, 0]), (14, .ifCond .ne 5, []), (17, .iconst (-1), []), (18, .ireturn, []), (19, .iconst 0, []), (20, .istore_n 3, []), (21, .iconst 0, []), (22, .istore 4, []), (24, .iload 4, []), (26, .aload_n 0, []), (27, .getfield 7, [12, 0, 1381, 2, 1]), (30, .iconst 2, []), (31, .iaload, []), (32, .if_icmp .ge 75, []), (35, .sipush 235, []), (38, .iconst 5, []), (39, .iload 4, []), (41, .imul, []), (42, .iadd, []), (43, .istore 5, []), (45, .iload_n 3, []), (46, .aload_n 0, []), (47, .getfield 7, [12, 0, 1381, 2, 1]), (50, .iload 5, []), (52, .iconst 1, []), (53, .iadd, []), (54, .iaload, []), (55, .iconst 2, []), (56, .if_icmp .eq 42, []), (59, .aload_n 0, []), (60, .getfield 7, [12, 0, 1381, 2, 1]), (63, .iload 5, []), (65, .iconst 2, []), (66, .iadd, []), (67, .iaload, []), (68, .iload_n 1, []), (69, .if_icmp .ne 29, []), (72, .aload_n 0, []), (73, .getfield 7, [12, 0, 1381, 2, 1]), (76, .iload 5, []), (78, .iconst 4, []), (79, .iadd, []), (80, .iaload, []), (81, .iconst (-1), []), (82, .if_icmp .ne 7, []), (85, .iconst 1, []), (86, .goto 4, []), (89, .iconst 0, []), (90, .iload_n 2, []), (91, .if_icmp .ne 7, []), (94, .iconst 1, []), (95, .goto 4, []), (98, .iconst 0, []), (99, .iadd, []), (100, .istore_n 3, []), (101, .iinc 4 1, []), (104, .goto (-80), []), (107, .iload_n 3, []), (108, .ireturn, [])]
/-- IsHeInModel.saw -/
def me308 : mM := (1, ⟨"IsHeInModel", "saw", "(II)I"⟩, prog_14_method_117_code, 6, (some .int), 12, [1977, 141, 1975, 1976], mc308)
def mc309 : List mI := [(0, .iload_n 1, []), (1, .iconst 0, []), (2, .iconst 1, []), (3, .invokestatic 63, [193, 3, 1500, 0]), (6, .ifCond .eq 12, []), (9, .iload_n 2, []), (10, .iconst 0, []), (11, .iconst 1, []), (12, .invokestatic 63, [193, 3, 1500, 0]), (15, .ifCond .ne 5, []), (18, .iconst (-1), []), (19, .ireturn, []), (20, .iconst 0, []), (21, .istore_n 3, []), (22, .iconst 0, []), (23, .istore 4, []), (25, .iload 4, []), (27, .aload_n 0, []), (28, .getfield 7, [12, 0, 1381, 2, 1]), (31, .iconst 2, []), (32, .iaload, []), (33, .if_icmp .ge 63, []), (36, .iload_n 3, []), (37, .aload_n 0, []), (38, .getfield 7, [12, 0, 1381, 2, 1]), (41, .sipush 235, []), (44, .iconst 5, []), (45, .iload 4, []), (47, .imul, []), (48, .iadd, []), (49, .iconst 1, []), (50, .iadd, []), (51, .iaload, []), (52, .iload_n 2, []), (53, .ifCond .ne 7, []), (56, .iconst 0, []), (57, .goto 4, []), (60, .iconst 1, []), (61, .if_icmp .ne 26, []), (64, .aload_n 0, []), (65, .getfield 7, [12, 0, 1381, 2, 1]), (68, .sipush 235, []), (71, .iconst 5, []), (72, .iload 4, []), (74, .imul, []), (75, .iadd, []), (76, .iconst 3, []), (77, .iadd, []), (78, .iaload, []), (79, .iload_n 1, []), (80, .if_icmp .ne 7, []), (83, .iconst 1, []), (84, .goto 4, []), (87, .iconst 0, []), (88, .iadd, []), (89, .istore_n 3, []), (90, .iinc 4 1, []), (93, .goto (-68), []), (96, .iload_n 3, []), (97, .ireturn, [])]
/-- IsHeInModel.by -/
def me309 : mM := (1, ⟨"IsHeInModel", "by", "(II)I"⟩, prog_14_method_118_code, 5, (some .int), 12, [1981, 141, 1979, 1980], mc309)
def mc310 : List mI := [(0, .iconst (-1), []), (1, .istore_n 1, []), (2, .iconst 0, []), (3, .istore_n 2, []), (4, .iload_n 2, []), (5, .aload_n 0, []), (6, .getfield 7, [12, 0, 1381, 2, 1]), (9, .bipush 112, []), (11, .iaload, []), (12, .if_icmp .ge 33, []), (15, .iload_n 1, []), (16, .iconst (-1), []), (17, .if_icmp .eq 20, []), (20, .aload_n 0, []), (21, .bipush 22, []), (23, .iload_n 2, []), (24, .invokevirtual 314, [244, 2, 1697, 0]), (27, .aload_n 0, []), (28, .bipush 22, []), (30, .iload_n 1, []), (31, .invokevirtual 314, [244, 2, 1697, 0]), (34, .if_icmp .le 5, []), (37, .iload_n 2, []), (38, .istore_n 1, []), (39, .iinc 2 1, []), (42, .goto (-38), []), (45, .iload_n 1, []), (46, .ireturn, [])]
/-- IsHeInModel.carries -/
def me310 : mM := (1, ⟨"IsHeInModel", "carries", "()I"⟩, prog_14_method_119_code, 3, (some .int), 12, [1985, 141, 1983, 1984], mc310)
def mc311 : List mI := [(0, .aload_n 0, []), (1, .iload_n 1, []), (2, .invokevirtual 75, [196, 1, 1507, 0]), (5, .ifCond .eq 24, []), (8, .aload_n 0, []), (9, .getfield 7, [12, 0, 1381, 2, 1]), (12, .iconst 3, []), (13, .iload_n 1, []), (14, .iadd, []), (15, .iaload, []), (16, .ifCond .eq 13, []), (19, .iload_n 2, []), (20, .iconst 0, []), (21, .bipush 48, []), (23, .invokestatic 63, [193, 3, 1500, 0]), (26, .ifCond .ne 5, []), (29, .iconst (-1), []), (30, .ireturn, []), (31, .ldc_w 447, [0, 1000000, 1990]), (34, .istore_n 3, []), (35, .iconst 0, []), (36, .istore 4, []), (38, .iload 4, []), (40, .iload_n 2, []), (41, .if_icmp .ge 61, []), (44, .iload_n 3, []), (45, .sipush 1000, []), (48, .aload_n 0, []), (49, .bipush 21, []), (51, .iload_n 1, []), (52, .aload_n 0, []), (53, .getfield 7, [12, 0, 1381, 2, 1]), (56, .iconst 0, []), (57, .iaload, []), (58, .iload 4, []), (60, .iadd, []), (61, .aload_n 0, []), (62, .getfield 7, [12, 0, 1381, 2, 1]), (65, .bipush 113, []), (67, .iaload, []), (68, .sipush 999, []), (71, .aload_n 0, []), (72, .getfield 7, [12, 0, 1381, 2, 1]), (75, .bipush 27, []), (77, .iload_n 1, []), (78, .iadd, []), (79, .iaload, []), (80, .iload 4, []), (82, .iadd, []), (83, .invokestatic 294, [194, 2, 1720, 0]), (86, .invokevirtual 304, [243, 5, 1701, 0]), (89, .isub, []), (90, .imul, []), (91, .sipush 1000, []), (94, .idiv, []), (95, .istore_n 3, []), (96, .iinc 4 1, []), (99, .goto (-61), []), (102, .iload_n 3, []), (103, .ireturn, [])]
/-- IsHeInModel.away -/
def me311 : mM := (1, ⟨"IsHeInModel", "away", "(II)I"⟩, prog_14_method_120_code, 5, (some .int), 12, [1989, 141, 1987, 1988], mc311)
def mc312 : List mI := [(0, .aload_n 0, []), (1, .iload_n 1, []), (2, .invokevirtual 75, [196, 1, 1507, 0]), (5, .ifCond .ne 6, []), (8, .bipush (-2), []), (10, .ireturn, []), (11, .iload_n 2, []), (12, .tableswitch 97 0 5 #[40, 50, 61, 70, 80, 90], [40]), (52, .aload_n 0, []), (53, .getfield 7, [12, 0, 1381, 2, 1]), (56, .bipush 119, []), (58, .iload_n 1, []), (59, .iadd, []), (60, .iaload, []), (61, .ireturn, []), (62, .aload_n 0, []), (63, .getfield 7, [12, 0, 1381, 2, 1]), (66, .sipush 131, []), (69, .iload_n 1, []), (70, .iadd, []), (71, .iaload, []), (72, .ireturn, []), (73, .aload_n 0, []), (74, .getfield 7, [12, 0, 1381, 2, 1]), (77, .iconst 3, []), (78, .iload_n 1, []), (79, .iadd, []), (80, .iaload, []), (81, .ireturn, []), (82, .aload_n 0, []), (83, .getfield 7, [12, 0, 1381, 2, 1]), (86, .bipush 15, []), (88, .iload_n 1, []), (89, .iadd, []), (90, .iaload, []), (91, .ireturn, []), (92, .aload_n 0, []), (93, .getfield 7, [12, 0, 1381, 2, 1]), (96, .bipush 27, []), (98, .iload_n 1, []), (99, .iadd, []), (100, .iaload, []), (101, .ireturn, []), (102, .aload_n 0, []), (103, .iload_n 1, []), (104, .invokevirtual 364, [258, 1, 1768, 0]), (107, .l2i, []), (108, .ireturn, []), (109, .iload_n 2, []), (110, .bipush 6, []), (112, .bipush 11, []), (114, .invokestatic 63, [193, 3, 1500, 0]), (117, .ifCond .eq 18, []), (120, .aload_n 0, []), (121, .bipush 20, []), (123, .iload_n 2, []), (124, .iadd, []), (125, .bipush 6, []), (127, .isub, []), (128, .iload_n 1, []), (129, .invokevirtual 314, [244, 2, 1697, 0]), (132, .goto 5, []), (135, .bipush (-2), []), (137, .ireturn, [])]
/-- IsHeInModel.of -/
def me312 : mM := (1, ⟨"IsHeInModel", "of", "(II)I"⟩, prog_14_method_121_code, 3, (some .int), 12, [1994, 141, 1992, 1993], mc312)
def mc313 : List mI := [(0, .aload_n 0, []), (1, .iload_n 1, []), (2, .invokevirtual 75, [196, 1, 1507, 0]), (5, .ifCond .eq 11, []), (8, .aload_n 0, []), (9, .iload_n 1, []), (10, .invokevirtual 311, [248, 1, 1740, 0]), (13, .goto 5, []), (16, .bipush (-2), []), (18, .ireturn, [])]
/-- IsHeInModel.hook -/
def me313 : mM := (1, ⟨"IsHeInModel", "hook", "(I)I"⟩, prog_14_method_122_code, 2, (some .int), 12, [1998, 141, 1996, 1997], mc313)
def mc314 : List mI := [(0, .aload_n 0, []), (1, .iload_n 1, []), (2, .invokevirtual 336, [197, 1, 1760, 0]), (5, .ifCond .ne 6, []), (8, .bipush (-2), []), (10, .ireturn, []), (11, .iload_n 2, []), (12, .iconst 0, []), (13, .iconst 1, []), (14, .invokestatic 63, [193, 3, 1500, 0]), (17, .ifCond .eq 18, []), (20, .aload_n 0, []), (21, .getfield 7, [12, 0, 1381, 2, 1]), (24, .sipush 143, []), (27, .iconst 2, []), (28, .iload_n 1, []), (29, .imul, []), (30, .iadd, []), (31, .iload_n 2, []), (32, .iadd, []), (33, .iaload, []), (34, .ireturn, []), (35, .aload_n 0, []), (36, .iload_n 2, []), (37, .iconst 2, []), (38, .isub, []), (39, .invokevirtual 75, [196, 1, 1507, 0]), (42, .ifCond .eq 22, []), (45, .aload_n 0, []), (46, .getfield 7, [12, 0, 1381, 2, 1]), (49, .bipush 39, []), (51, .bipush 6, []), (53, .iload_n 2, []), (54, .iconst 2, []), (55, .isub, []), (56, .imul, []), (57, .iadd, []), (58, .iload_n 1, []), (59, .iadd, []), (60, .iaload, []), (61, .goto 5, []), (64, .bipush (-2), []), (66, .ireturn, [])]
/-- IsHeInModel.sign -/
def me314 : mM := (1, ⟨"IsHeInModel", "sign", "(II)I"⟩, prog_14_method_123_code, 3, (some .int), 12, [2002, 141, 2000, 2001], mc314)
def mc315 : List mI := [(0, .iload_n 1, []), (1, .iconst 0, []), (2, .aload_n 0, []), (3, .getfield 7, [12, 0, 1381, 2, 1]), (6, .iconst 2, []), (7, .iaload, []), (8, .iconst 1, []), (9, .isub, []), (10, .invokestatic 63, [193, 3, 1500, 0]), (13, .ifCond .eq 29, []), (16, .iload_n 2, []), (17, .iconst 0, []), (18, .iconst 4, []), (19, .invokestatic 63, [193, 3, 1500, 0]), (22, .ifCond .eq 20, []), (25, .aload_n 0, []), (26, .getfield 7, [12, 0, 1381, 2, 1]), (29, .sipush 235, []), (32, .iconst 5, []), (33, .iload_n 1, []), (34, .imul, []), (35, .iadd, []), (36, .iload_n 2, []), (37, .iadd, []), (38, .iaload, []), (39, .goto 5, []), (42, .bipush (-2), []), (44, .ireturn, [])]
/-- IsHeInModel.book -/
def me315 : mM := (1, ⟨"IsHeInModel", "book", "(II)I"⟩, prog_14_method_124_code, 3, (some .int), 12, [2006, 141, 2004, 2005], mc315)
def mc316 : List mI := [(0, .iload_n 1, []), (1, .ifCond .ne 12, []), (4, .aload_n 0, []), (5, .getfield 448, [12, 4, 1385, 3, 0]), (8, .ifCond .ne 5, []), (11, .iconst 0, []), (12, .ireturn, []), (13, .iconst 0, []), (14, .istore_n 2, []), (15, .iload_n 2, []), (16, .sipush 1894, []), (19, .if_icmp .ge 40, []), (22, .iload_n 1, []), (23, .ifCond .eq 18, []), (26, .aload_n 0, []), (27, .getfield 13, [12, 1, 1382, 2, 1]), (30, .iload_n 2, []), (31, .aload_n 0, []), (32, .getfield 7, [12, 0, 1381, 2, 1]), (35, .iload_n 2, []), (36, .iaload, []), (37, .iastore, []), (38, .goto 15, []), (41, .aload_n 0, []), (42, .getfield 7, [12, 0, 1381, 2, 1]), (45, .iload_n 2, []), (46, .aload_n 0, []), (47, .getfield 13, [12, 1, 1382, 2, 1]), (50, .iload_n 2, []), (51, .iaload, []), (52, .iastore, []), (53, .iinc 2 1, []), (56, .goto (-41), []), (59, .iload_n 1, []), (60, .ifCond .ne 7, []), (63, .aload_n 0, []), (64, .invokevirtual 70, [198, 0, 1492, 0]), (67, .aload_n 0, []), (68, .iconst 1, []), (69, .putfield 448, [12, 4, 1385, 3, 0]), (72, .iconst 1, []), (73, .ireturn, [])]
/-- IsHeInModel.image -/
def me316 : mM := (1, ⟨"IsHeInModel", "image", "(Z)Z"⟩, prog_14_method_125_code, 3, (some .boolean), 12, [2010, 141, 2008, 2009], mc316)
def mc317 : List mI := [(0, .iconst 0, []), (1, .istore_n 1, []), (2, .iconst 0, []), (3, .istore_n 2, []), (4, .iload_n 2, []), (5, .aload_n 0, []), (6, .getfield 7, [12, 0, 1381, 2, 1]), (9, .bipush 112, []), (11, .iaload, []), (12, .if_icmp .ge 22, []), (15, .iload_n 1, []), (16, .aload_n 0, []), (17, .getfield 7, [12, 0, 1381, 2, 1]), (20, .iconst 3, []), (21, .iload_n 2, []), (22, .iadd, []), (23, .iaload, []), (24, .iload_n 2, []), (25, .ishl, []), (26, .ior, []), (27, .istore_n 1, []), (28, .iinc 2 1, []), (31, .goto (-27), []), (34, .iload_n 1, []), (35, .ireturn, [])]
/-- IsHeInModel.outs -/
def me317 : mM := (1, ⟨"IsHeInModel", "outs", "()I"⟩, prog_14_method_126_code, 3, (some .int), 12, [2018, 141, 2017, 125], mc317)
def mc318 : List mI := [(0, .iconst 0, []), (1, .istore_n 1, []), (2, .iconst 0, []), (3, .istore_n 2, []), (4, .iload_n 2, []), (5, .aload_n 0, []), (6, .getfield 7, [12, 0, 1381, 2, 1]), (9, .bipush 112, []), (11, .iaload, []), (12, .if_icmp .ge 40, []), (15, .iload_n 1, []), (16, .aload_n 0, []), (17, .getfield 7, [12, 0, 1381, 2, 1]), (20, .bipush 15, []), (22, .iload_n 2, []), (23, .iadd, []), (24, .iaload, []), (25, .iconst (-1), []), (26, .if_icmp .eq 17, []), (29, .iconst 1, []), (30, .aload_n 0, []), (31, .getfield 7, [12, 0, 1381, 2, 1]), (34, .bipush 15, []), (36, .iload_n 2, []), (37, .iadd, []), (38, .iaload, []), (39, .ishl, []), (40, .goto 4, []), (43, .iconst 0, []), (44, .ior, []), (45, .istore_n 1, []), (46, .iinc 2 1, []), (49, .goto (-45), []), (52, .iload_n 1, []), (53, .ireturn, [])]
/-- IsHeInModel.hooksWithKeys -/
def me318 : mM := (1, ⟨"IsHeInModel", "hooksWithKeys", "()I"⟩, prog_14_method_127_code, 3, (some .int), 12, [2022, 141, 2021, 126], mc318)
def mc319 : List mI := [(0, .iload_n 1, []), (1, .tableswitch 172 0 13 #[71, 79, 86, 91, 96, 104, 112, 119, 126, 134, 142, 150, 158, 163], [71]), (72, .aload_n 0, []), (73, .getfield 7, [12, 0, 1381, 2, 1]), (76, .bipush 112, []), (78, .iaload, []), (79, .ireturn, []), (80, .aload_n 0, []), (81, .getfield 7, [12, 0, 1381, 2, 1]), (84, .iconst 0, []), (85, .iaload, []), (86, .ireturn, []), (87, .aload_n 0, []), (88, .invokevirtual 452, [317, 0, 2015, 0]), (91, .ireturn, []), (92, .aload_n 0, []), (93, .invokevirtual 455, [318, 0, 2019, 0]), (96, .ireturn, []), (97, .aload_n 0, []), (98, .getfield 7, [12, 0, 1381, 2, 1]), (101, .bipush 113, []), (103, .iaload, []), (104, .ireturn, []), (105, .aload_n 0, []), (106, .getfield 7, [12, 0, 1381, 2, 1]), (109, .bipush 114, []), (111, .iaload, []), (112, .ireturn, []), (113, .aload_n 0, []), (114, .getfield 7, [12, 0, 1381, 2, 1]), (117, .iconst 2, []), (118, .iaload, []), (119, .ireturn, []), (120, .aload_n 0, []), (121, .getfield 7, [12, 0, 1381, 2, 1]), (124, .iconst 1, []), (125, .iaload, []), (126, .ireturn, []), (127, .aload_n 0, []), (128, .getfield 7, [12, 0, 1381, 2, 1]), (131, .bipush 117, []), (133, .iaload, []), (134, .ireturn, []), (135, .aload_n 0, []), (136, .getfield 7, [12, 0, 1381, 2, 1]), (139, .bipush 115, []), (141, .iaload, []), (142, .ireturn, []), (143, .aload_n 0, []), (144, .getfield 7, [12, 0, 1381, 2, 1]), (147, .bipush 116, []), (149, .iaload, []), (150, .ireturn, []), (151, .aload_n 0, []), (152, .getfield 7, [12, 0, 1381, 2, 1]), (155, .bipush 118, []), (157, .iaload, []), (158, .ireturn, []), (159, .aload_n 0, []), (160, .getfield 67, [12, 3, 1384, 0, 0]), (163, .ireturn, []), (164, .aload_n 0, []), (165, .getfield 7, [12, 0, 1381, 2, 1]), (168, .sipush 1049, []), (171, .iaload, []), (172, .ireturn, []), (173, .iconst (-1), []), (174, .ireturn, [])]
/-- IsHeInModel.look -/
def me319 : mM := (1, ⟨"IsHeInModel", "look", "(I)I"⟩, prog_14_method_128_code, 2, (some .int), 12, [2014, 141, 2012, 2013], mc319)
def mc320 : List mI := [(0, .iload_n 0, []), (1, .iload_n 0, []), (2, .iconst 1, []), (3, .iushr, []), (4, .ldc_w 265, [0, 1431655765, 1047]), (7, .iand, []), (8, .isub, []), (9, .istore_n 0, []), (10, .iload_n 0, []), (11, .ldc_w 266, [0, 858993459, 1048]), (14, .iand, []), (15, .iload_n 0, []), (16, .iconst 2, []), (17, .iushr, []), (18, .ldc_w 266, [0, 858993459, 1048]), (21, .iand, []), (22, .iadd, []), (23, .istore_n 0, []), (24, .iload_n 0, []), (25, .iload_n 0, []), (26, .iconst 4, []), (27, .iushr, []), (28, .iadd, []), (29, .ldc_w 267, [0, 252645135, 1049]), (32, .iand, []), (33, .istore_n 0, []), (34, .iload_n 0, []), (35, .iload_n 0, []), (36, .bipush 8, []), (38, .iushr, []), (39, .iadd, []), (40, .istore_n 0, []), (41, .iload_n 0, []), (42, .iload_n 0, []), (43, .bipush 16, []), (45, .iushr, []), (46, .iadd, []), (47, .istore_n 0, []), (48, .iload_n 0, []), (49, .bipush 63, []), (51, .iand, []), (52, .ireturn, [])]
/-- java/lang/Integer.bitCount -/
def me320 : mM := (0, ⟨"java/lang/Integer", "bitCount", "(I)I"⟩, prog_15_method_49_code, 1, (some .int), 98, [1046, 146, 1045, 0], mc320)
def mc321 : List mI := [(0, .aload_n 0, []), (1, .getfield 9, [-1, 0, 2023]), (4, .arraylength, []), (5, .aload_n 0, []), (6, .invokevirtual 335, [323, 0, 762, 0]), (9, .ishr, []), (10, .ireturn, [])]
/-- java/lang/String.length -/
def me321 : mM := (1, ⟨"java/lang/String", "length", "()I"⟩, prog_17_method_54_code, 1, (some .int), 99, [761, 142, 759, 760], mc321)
def mc322 : List mI := [(0, .aload_n 0, []), (1, .invokevirtual 492, [324, 0, 772, 0]), (4, .ifCond .eq 12, []), (7, .aload_n 0, []), (8, .getfield 9, [-1, 0, 2023]), (11, .iload_n 1, []), (12, .invokestatic 495, [326, 2, 776, 0]), (15, .ireturn, []), (16, .aload_n 0, []), (17, .getfield 9, [-1, 0, 2023]), (20, .iload_n 1, []), (21, .invokestatic 498, [-2]), (24, .ireturn, [])]
/-- java/lang/String.charAt -/
def me322 : mM := (1, ⟨"java/lang/String", "charAt", "(I)C"⟩, prog_17_method_56_code, 2, (some .char), 99, [771, 142, 769, 770], mc322)
def mc323 : List mI := [(0, .getstatic 38, [1, 766]), (3, .ifCond .eq 10, []), (6, .aload_n 0, []), (7, .getfield 15, [-1, 1, 2024]), (10, .goto 4, []), (13, .iconst 1, []), (14, .ireturn, [])]
/-- java/lang/String.coder -/
def me323 : mM := (1, ⟨"java/lang/String", "coder", "()B"⟩, prog_17_method_152_code, 1, (some .byte), 99, [765, 142, 763, 764], mc323)
def mc324 : List mI := [(0, .getstatic 38, [1, 766]), (3, .ifCond .eq 14, []), (6, .aload_n 0, []), (7, .getfield 15, [-1, 1, 2024]), (10, .ifCond .ne 7, []), (13, .iconst 1, []), (14, .goto 4, []), (17, .iconst 0, []), (18, .ireturn, [])]
/-- java/lang/String.isLatin1 -/
def me324 : mM := (1, ⟨"java/lang/String", "isLatin1", "()Z"⟩, prog_17_method_154_code, 1, (some .boolean), 99, [775, 142, 773, 774], mc324)
def mc325 : List mI := [(0, .iload_n 0, []), (1, .iload_n 1, []), (2, .getstatic 1053, [2, 782]), (5, .invokestatic 1059, [327, 3, 784, 0]), (8, .pop, []), (9, .return_, [])]
/-- java/lang/String.checkIndex -/
def me325 : mM := (0, ⟨"java/lang/String", "checkIndex", "(II)V"⟩, prog_17_method_155_code, 2, none, 99, [781, 142, 780, 0], mc325)
def mc326 : List mI := [(0, .iload_n 1, []), (1, .aload_n 0, []), (2, .arraylength, []), (3, .invokestatic 9, [325, 2, 779, 0]), (6, .aload_n 0, []), (7, .iload_n 1, []), (8, .baload, []), (9, .sipush 255, []), (12, .iand, []), (13, .i2c, []), (14, .ireturn, [])]
/-- java/lang/StringLatin1.charAt -/
def me326 : mM := (0, ⟨"java/lang/StringLatin1", "charAt", "([BI)C"⟩, prog_18_method_2_code, 2, (some .char), 98, [778, 143, 777, 0], mc326)
def mc327 : List mI := [(0, .iload_n 0, []), (1, .ifCond .lt 8, []), (4, .iload_n 0, []), (5, .iload_n 1, []), (6, .if_icmp .lt 10, []), (9, .aload_n 2, []), (10, .iload_n 0, []), (11, .iload_n 1, []), (12, .invokestatic 95, [-2]), (15, .athrow, []), (16, .iload_n 0, []), (17, .ireturn, [])]
/-- jdk/internal/util/Preconditions.checkIndex -/
def me327 : mM := (0, ⟨"jdk/internal/util/Preconditions", "checkIndex", "(IILjava/util/function/BiFunction;)I"⟩, prog_20_method_11_code, 3, (some .int), 98, [786, 144, 785, 0], mc327)
def m_tab : List mM := [me0, me1, me2, me3, me4, me5, me6, me7, me8, me9, me10, me11, me12, me13, me14, me15, me16, me17, me18, me19, me20, me21, me22, me23, me24, me25, me26, me27, me28, me29, me30, me31, me32, me33, me34, me35, me36, me37, me38, me39, me40, me41, me42, me43, me44, me45, me46, me47, me48, me49, me50, me51, me52, me53, me54, me55, me56, me57, me58, me59, me60, me61, me62, me63, me64, me65, me66, me67, me68, me69, me70, me71, me72, me73, me74, me75, me76, me77, me78, me79, me80, me81, me82, me83, me84, me85, me86, me87, me88, me89, me90, me91, me92, me93, me94, me95, me96, me97, me98, me99, me100, me101, me102, me103, me104, me105, me106, me107, me108, me109, me110, me111, me112, me113, me114, me115, me116, me117, me118, me119, me120, me121, me122, me123, me124, me125, me126, me127, me128, me129, me130, me131, me132, me133, me134, me135, me136, me137, me138, me139, me140, me141, me142, me143, me144, me145, me146, me147, me148, me149, me150, me151, me152, me153, me154, me155, me156, me157, me158, me159, me160, me161, me162, me163, me164, me165, me166, me167, me168, me169, me170, me171, me172, me173, me174, me175, me176, me177, me178, me179, me180, me181, me182, me183, me184, me185, me186, me187, me188, me189, me190, me191, me192, me193, me194, me195, me196, me197, me198, me199, me200, me201, me202, me203, me204, me205, me206, me207, me208, me209, me210, me211, me212, me213, me214, me215, me216, me217, me218, me219, me220, me221, me222, me223, me224, me225, me226, me227, me228, me229, me230, me231, me232, me233, me234, me235, me236, me237, me238, me239, me240, me241, me242, me243, me244, me245, me246, me247, me248, me249, me250, me251, me252, me253, me254, me255, me256, me257, me258, me259, me260, me261, me262, me263, me264, me265, me266, me267, me268, me269, me270, me271, me272, me273, me274, me275, me276, me277, me278, me279, me280, me281, me282, me283, me284, me285, me286, me287, me288, me289, me290, me291, me292, me293, me294, me295, me296, me297, me298, me299, me300, me301, me302, me303, me304, me305, me306, me307, me308, me309, me310, me311, me312, me313, me314, me315, me316, me317, me318, me319, me320, me321, me322, me323, me324, me325, me326, me327]
def mcL : List mI := [(0, .new 7, [11, 147, 148, 128]), (3, .dup, []), (4, .invokespecial 9, [139, 0, 149, 0]), (7, .astore_n 1, []), (8, .new 10, [12, 1375, 1376, 141]), (11, .dup, []), (12, .invokespecial 12, [192, 0, 1377, 0]), (15, .astore_n 2, []), (16, .iconst 0, []), (17, .istore_n 3, []), (18, .iload_n 3, []), (19, .aload_n 0, []), (20, .arraylength, []), (21, .bipush 6, []), (23, .isub, []), (24, .if_icmp .gt 1568, []), (27, .aload_n 0, []), (28, .iload_n 3, []), (29, .iaload, []), (30, .bipush 63, []), (32, .iand, []), (33, .tableswitch 1553 0 45 #[199, 222, 255, 298, 331, 374, 397, 460, 483, 506, 529, 562, 585, 618, 651, 674, 717, 740, 773, 806, 839, 862, 875, 918, 951, 984, 1027, 1050, 1083, 1106, 1129, 1152, 1165, 1188, 1211, 1244, 1297, 1320, 1343, 1376, 1409, 1432, 1445, 1478, 1491, 1530], [199]), (232, .aload_n 1, []), (233, .aload_n 0, []), (234, .iload_n 3, []), (235, .iconst 1, []), (236, .iadd, []), (237, .iaload, []), (238, .invokevirtual 13, [140, 1, 523, 0]), (241, .pop, []), (242, .aload_n 2, []), (243, .aload_n 0, []), (244, .iload_n 3, []), (245, .iconst 1, []), (246, .iadd, []), (247, .iaload, []), (248, .invokevirtual 17, [199, 1, 1488, 0]), (251, .pop, []), (252, .goto 1334, []), (255, .aload_n 1, []), (256, .aload_n 0, []), (257, .iload_n 3, []), (258, .iconst 1, []), (259, .iadd, []), (260, .iaload, []), (261, .aload_n 0, []), (262, .iload_n 3, []), (263, .iconst 2, []), (264, .iadd, []), (265, .iaload, []), (266, .invokevirtual 18, [141, 2, 531, 0]), (269, .pop, []), (270, .aload_n 2, []), (271, .aload_n 0, []), (272, .iload_n 3, []), (273, .iconst 1, []), (274, .iadd, []), (275, .iaload, []), (276, .aload_n 0, []), (277, .iload_n 3, []), (278, .iconst 2, []), (279, .iadd, []), (280, .iaload, []), (281, .invokevirtual 22, [201, 2, 1496, 0]), (284, .pop, []), (285, .goto 1301, []), (288, .aload_n 1, []), (289, .aload_n 0, []), (290, .iload_n 3, []), (291, .iconst 1, []), (292, .iadd, []), (293, .iaload, []), (294, .aload_n 0, []), (295, .iload_n 3, []), (296, .iconst 2, []), (297, .iadd, []), (298, .iaload, []), (299, .aload_n 0, []), (300, .iload_n 3, []), (301, .iconst 3, []), (302, .iadd, []), (303, .iaload, []), (304, .invokevirtual 23, [142, 3, 559, 0]), (307, .pop, []), (308, .aload_n 2, []), (309, .aload_n 0, []), (310, .iload_n 3, []), (311, .iconst 1, []), (312, .iadd, []), (313, .iaload, []), (314, .aload_n 0, []), (315, .iload_n 3, []), (316, .iconst 2, []), (317, .iadd, []), (318, .iaload, []), (319, .aload_n 0, []), (320, .iload_n 3, []), (321, .iconst 3, []), (322, .iadd, []), (323, .iaload, []), (324, .invokevirtual 27, [202, 3, 1503, 0]), (327, .pop, []), (328, .goto 1258, []), (331, .aload_n 1, []), (332, .aload_n 0, []), (333, .iload_n 3, []), (334, .iconst 1, []), (335, .iadd, []), (336, .iaload, []), (337, .aload_n 0, []), (338, .iload_n 3, []), (339, .iconst 2, []), (340, .iadd, []), (341, .iaload, []), (342, .invokevirtual 28, [144, 2, 576, 0]), (345, .pop, []), (346, .aload_n 2, []), (347, .aload_n 0, []), (348, .iload_n 3, []), (349, .iconst 1, []), (350, .iadd, []), (351, .iaload, []), (352, .aload_n 0, []), (353, .iload_n 3, []), (354, .iconst 2, []), (355, .iadd, []), (356, .iaload, []), (357, .invokevirtual 32, [254, 2, 1752, 0]), (360, .pop, []), (361, .goto 1225, []), (364, .aload_n 1, []), (365, .aload_n 0, []), (366, .iload_n 3, []), (367, .iconst 1, []), (368, .iadd, []), (369, .iaload, []), (370, .aload_n 0, []), (371, .iload_n 3, []), (372, .iconst 2, []), (373, .iadd, []), (374, .iaload, []), (375, .aload_n 0, []), (376, .iload_n 3, []), (377, .iconst 3, []), (378, .iadd, []), (379, .iaload, []), (380, .invokevirtual 33, [145, 3, 621, 0]), (383, .pop, []), (384, .aload_n 2, []), (385, .aload_n 0, []), (386, .iload_n 3, []), (387, .iconst 1, []), (388, .iadd, []), (389, .iaload, []), (390, .aload_n 0, []), (391, .iload_n 3, []), (392, .iconst 2, []), (393, .iadd, []), (394, .iaload, []), (395, .aload_n 0, []), (396, .iload_n 3, []), (397, .iconst 3, []), (398, .iadd, []), (399, .iaload, []), (400, .invokevirtual 36, [255, 3, 1756, 0]), (403, .pop, []), (404, .goto 1182, []), (407, .aload_n 1, []), (408, .aload_n 0, []), (409, .iload_n 3, []), (410, .iconst 1, []), (411, .iadd, []), (412, .iaload, []), (413, .invokevirtual 37, [146, 1, 630, 0]), (416, .pop, []), (417, .aload_n 2, []), (418, .aload_n 0, []), (419, .iload_n 3, []), (420, .iconst 1, []), (421, .iadd, []), (422, .iaload, []), (423, .invokevirtual 40, [253, 1, 1681, 0]), (426, .pop, []), (427, .goto 1159, []), (430, .aload_n 1, []), (431, .aload_n 0, []), (432, .iload_n 3, []), (433, .iconst 1, []), (434, .iadd, []), (435, .iaload, []), (436, .aload_n 0, []), (437, .iload_n 3, []), (438, .iconst 2, []), (439, .iadd, []), (440, .iaload, []), (441, .aload_n 0, []), (442, .iload_n 3, []), (443, .iconst 3, []), (444, .iadd, []), (445, .iaload, []), (446, .aload_n 0, []), (447, .iload_n 3, []), (448, .iconst 4, []), (449, .iadd, []), (450, .iaload, []), (451, .aload_n 0, []), (452, .iload_n 3, []), (453, .iconst 5, []), (454, .iadd, []), (455, .iaload, []), (456, .invokevirtual 41, [147, 5, 705, 0]), (459, .aload_n 2, []), (460, .aload_n 0, []), (461, .iload_n 3, []), (462, .iconst 1, []), (463, .iadd, []), (464, .iaload, []), (465, .aload_n 0, []), (466, .iload_n 3, []), (467, .iconst 2, []), (468, .iadd, []), (469, .iaload, []), (470, .aload_n 0, []), (471, .iload_n 3, []), (472, .iconst 3, []), (473, .iadd, []), (474, .iaload, []), (475, .aload_n 0, []), (476, .iload_n 3, []), (477, .iconst 4, []), (478, .iadd, []), (479, .iaload, []), (480, .aload_n 0, []), (481, .iload_n 3, []), (482, .iconst 5, []), (483, .iadd, []), (484, .iaload, []), (485, .invokevirtual 45, [203, 5, 1511, 0]), (488, .if_icmp .eq 1098, []), (491, .iconst 0, []), (492, .ireturn, []), (493, .aload_n 1, []), (494, .aload_n 0, []), (495, .iload_n 3, []), (496, .iconst 1, []), (497, .iadd, []), (498, .iaload, []), (499, .invokevirtual 46, [148, 1, 718, 0]), (502, .pop, []), (503, .aload_n 2, []), (504, .aload_n 0, []), (505, .iload_n 3, []), (506, .iconst 1, []), (507, .iadd, []), (508, .iaload, []), (509, .invokevirtual 50, [204, 1, 1515, 0]), (512, .pop, []), (513, .goto 1073, []), (516, .aload_n 1, []), (517, .aload_n 0, []), (518, .iload_n 3, []), (519, .iconst 1, []), (520, .iadd, []), (521, .iaload, []), (522, .invokevirtual 51, [149, 1, 722, 0]), (525, .pop, []), (526, .aload_n 2, []), (527, .aload_n 0, []), (528, .iload_n 3, []), (529, .iconst 1, []), (530, .iadd, []), (531, .iaload, []), (532, .invokevirtual 54, [236, 1, 1519, 0]), (535, .pop, []), (536, .goto 1050, []), (539, .aload_n 1, []), (540, .aload_n 0, []), (541, .iload_n 3, []), (542, .iconst 1, []), (543, .iadd, []), (544, .iaload, []), (545, .invokevirtual 55, [150, 1, 923, 0]), (548, .pop, []), (549, .aload_n 2, []), (550, .aload_n 0, []), (551, .iload_n 3, []), (552, .iconst 1, []), (553, .iadd, []), (554, .iaload, []), (555, .invokevirtual 58, [237, 1, 1673, 0]), (558, .pop, []), (559, .goto 1027, []), (562, .aload_n 1, []), (563, .aload_n 0, []), (564, .iload_n 3, []), (565, .iconst 1, []), (566, .iadd, []), (567, .iaload, []), (568, .aload_n 0, []), (569, .iload_n 3, []), (570, .iconst 2, []), (571, .iadd, []), (572, .iaload, []), (573, .invokevirtual 59, [155, 2, 959, 0]), (576, .pop, []), (577, .aload_n 2, []), (578, .aload_n 0, []), (579, .iload_n 3, []), (580, .iconst 1, []), (581, .iadd, []), (582, .iaload, []), (583, .aload_n 0, []), (584, .iload_n 3, []), (585, .iconst 2, []), (586, .iadd, []), (587, .iaload, []), (588, .invokevirtual 62, [312, 2, 1991, 0]), (591, .pop, []), (592, .goto 994, []), (595, .aload_n 1, []), (596, .aload_n 0, []), (597, .iload_n 3, []), (598, .iconst 1, []), (599, .iadd, []), (600, .iaload, []), (601, .invokevirtual 63, [156, 1, 988, 0]), (604, .pop, []), (605, .aload_n 2, []), (606, .aload_n 0, []), (607, .iload_n 3, []), (608, .iconst 1, []), (609, .iadd, []), (610, .iaload, []), (611, .invokevirtual 66, [313, 1, 1995, 0]), (614, .pop, []), (615, .goto 971, []), (618, .aload_n 1, []), (619, .aload_n 0, []), (620, .iload_n 3, []), (621, .iconst 1, []), (622, .iadd, []), (623, .iaload, []), (624, .aload_n 0, []), (625, .iload_n 3, []), (626, .iconst 2, []), (627, .iadd, []), (628, .iaload, []), (629, .invokevirtual 67, [157, 2, 993, 0]), (632, .pop, []), (633, .aload_n 2, []), (634, .aload_n 0, []), (635, .iload_n 3, []), (636, .iconst 1, []), (637, .iadd, []), (638, .iaload, []), (639, .aload_n 0, []), (640, .iload_n 3, []), (641, .iconst 2, []), (642, .iadd, []), (643, .iaload, []), (644, .invokevirtual 70, [314, 2, 1999, 0]), (647, .pop, []), (648, .goto 938, []), (651, .aload_n 1, []), (652, .aload_n 0, []), (653, .iload_n 3, []), (654, .iconst 1, []), (655, .iadd, []), (656, .iaload, []), (657, .aload_n 0, []), (658, .iload_n 3, []), (659, .iconst 2, []), (660, .iadd, []), (661, .iaload, []), (662, .invokevirtual 71, [158, 2, 997, 0]), (665, .pop, []), (666, .aload_n 2, []), (667, .aload_n 0, []), (668, .iload_n 3, []), (669, .iconst 1, []), (670, .iadd, []), (671, .iaload, []), (672, .aload_n 0, []), (673, .iload_n 3, []), (674, .iconst 2, []), (675, .iadd, []), (676, .iaload, []), (677, .invokevirtual 74, [315, 2, 2003, 0]), (680, .pop, []), (681, .goto 905, []), (684, .aload_n 1, []), (685, .aload_n 0, []), (686, .iload_n 3, []), (687, .iconst 1, []), (688, .iadd, []), (689, .iaload, []), (690, .invokevirtual 75, [167, 1, 1089, 0]), (693, .pop, []), (694, .aload_n 2, []), (695, .aload_n 0, []), (696, .iload_n 3, []), (697, .iconst 1, []), (698, .iadd, []), (699, .iaload, []), (700, .invokevirtual 78, [264, 1, 1764, 0]), (703, .pop, []), (704, .goto 882, []), (707, .aload_n 1, []), (708, .aload_n 0, []), (709, .iload_n 3, []), (710, .iconst 1, []), (711, .iadd, []), (712, .iaload, []), (713, .aload_n 0, []), (714, .iload_n 3, []), (715, .iconst 2, []), (716, .iadd, []), (717, .iaload, []), (718, .aload_n 0, []), (719, .iload_n 3, []), (720, .iconst 3, []), (721, .iadd, []), (722, .iaload, []), (723, .invokevirtual 79, [169, 3, 1119, 0]), (726, .pop, []), (727, .aload_n 2, []), (728, .aload_n 0, []), (729, .iload_n 3, []), (730, .iconst 1, []), (731, .iadd, []), (732, .iaload, []), (733, .aload_n 0, []), (734, .iload_n 3, []), (735, .iconst 2, []), (736, .iadd, []), (737, .iaload, []), (738, .aload_n 0, []), (739, .iload_n 3, []), (740, .iconst 3, []), (741, .iadd, []), (742, .iaload, []), (743, .invokevirtual 83, [267, 3, 1807, 0]), (746, .pop, []), (747, .goto 839, []), (750, .aload_n 1, []), (751, .aload_n 0, []), (752, .iload_n 3, []), (753, .iconst 1, []), (754, .iadd, []), (755, .iaload, []), (756, .invokevirtual 84, [171, 1, 1143, 0]), (759, .pop, []), (760, .aload_n 2, []), (761, .aload_n 0, []), (762, .iload_n 3, []), (763, .iconst 1, []), (764, .iadd, []), (765, .iaload, []), (766, .invokevirtual 87, [272, 1, 1827, 0]), (769, .pop, []), (770, .goto 816, []), (773, .aload_n 1, []), (774, .aload_n 0, []), (775, .iload_n 3, []), (776, .iconst 1, []), (777, .iadd, []), (778, .iaload, []), (779, .aload_n 0, []), (780, .iload_n 3, []), (781, .iconst 2, []), (782, .iadd, []), (783, .iaload, []), (784, .invokevirtual 88, [172, 2, 1167, 0]), (787, .pop, []), (788, .aload_n 2, []), (789, .aload_n 0, []), (790, .iload_n 3, []), (791, .iconst 1, []), (792, .iadd, []), (793, .iaload, []), (794, .aload_n 0, []), (795, .iload_n 3, []), (796, .iconst 2, []), (797, .iadd, []), (798, .iaload, []), (799, .invokevirtual 91, [277, 2, 1847, 0]), (802, .pop, []), (803, .goto 783, []), (806, .aload_n 1, []), (807, .aload_n 0, []), (808, .iload_n 3, []), (809, .iconst 1, []), (810, .iadd, []), (811, .iaload, []), (812, .aload_n 0, []), (813, .iload_n 3, []), (814, .iconst 2, []), (815, .iadd, []), (816, .iaload, []), (817, .invokevirtual 92, [173, 2, 1179, 0]), (820, .pop, []), (821, .aload_n 2, []), (822, .aload_n 0, []), (823, .iload_n 3, []), (824, .iconst 1, []), (825, .iadd, []), (826, .iaload, []), (827, .aload_n 0, []), (828, .iload_n 3, []), (829, .iconst 2, []), (830, .iadd, []), (831, .iaload, []), (832, .invokevirtual 95, [279, 2, 1855, 0]), (835, .pop, []), (836, .goto 750, []), (839, .aload_n 1, []), (840, .aload_n 0, []), (841, .iload_n 3, []), (842, .iconst 1, []), (843, .iadd, []), (844, .iaload, []), (845, .aload_n 0, []), (846, .iload_n 3, []), (847, .iconst 2, []), (848, .iadd, []), (849, .iaload, []), (850, .invokevirtual 96, [177, 2, 1215, 0]), (853, .pop, []), (854, .aload_n 2, []), (855, .aload_n 0, []), (856, .iload_n 3, []), (857, .iconst 1, []), (858, .iadd, []), (859, .iaload, []), (860, .aload_n 0, []), (861, .iload_n 3, []), (862, .iconst 2, []), (863, .iadd, []), (864, .iaload, []), (865, .invokevirtual 99, [280, 2, 1863, 0]), (868, .pop, []), (869, .goto 717, []), (872, .aload_n 1, []), (873, .aload_n 0, []), (874, .iload_n 3, []), (875, .iconst 1, []), (876, .iadd, []), (877, .iaload, []), (878, .invokevirtual 100, [174, 1, 1187, 0]), (881, .pop, []), (882, .aload_n 2, []), (883, .aload_n 0, []), (884, .iload_n 3, []), (885, .iconst 1, []), (886, .iadd, []), (887, .iaload, []), (888, .invokevirtual 103, [285, 1, 1883, 0]), (891, .pop, []), (892, .goto 694, []), (895, .aload_n 1, []), (896, .invokevirtual 104, [164, 0, 1063, 0]), (899, .pop, []), (900, .aload_n 2, []), (901, .invokevirtual 108, [286, 0, 1887, 0]), (904, .pop, []), (905, .goto 681, []), (908, .aload_n 1, []), (909, .aload_n 0, []), (910, .iload_n 3, []), (911, .iconst 1, []), (912, .iadd, []), (913, .iaload, []), (914, .aload_n 0, []), (915, .iload_n 3, []), (916, .iconst 2, []), (917, .iadd, []), (918, .iaload, []), (919, .aload_n 0, []), (920, .iload_n 3, []), (921, .iconst 3, []), (922, .iadd, []), (923, .iaload, []), (924, .invokevirtual 109, [180, 3, 1253, 0]), (927, .pop, []), (928, .aload_n 2, []), (929, .aload_n 0, []), (930, .iload_n 3, []), (931, .iconst 1, []), (932, .iadd, []), (933, .iaload, []), (934, .aload_n 0, []), (935, .iload_n 3, []), (936, .iconst 2, []), (937, .iadd, []), (938, .iaload, []), (939, .aload_n 0, []), (940, .iload_n 3, []), (941, .iconst 3, []), (942, .iadd, []), (943, .iaload, []), (944, .invokevirtual 112, [275, 3, 1843, 0]), (947, .pop, []), (948, .goto 638, []), (951, .aload_n 1, []), (952, .aload_n 0, []), (953, .iload_n 3, []), (954, .iconst 1, []), (955, .iadd, []), (956, .iaload, []), (957, .aload_n 0, []), (958, .iload_n 3, []), (959, .iconst 2, []), (960, .iadd, []), (961, .iaload, []), (962, .invokevirtual 113, [159, 2, 1002, 0]), (965, .pop, []), (966, .aload_n 2, []), (967, .aload_n 0, []), (968, .iload_n 3, []), (969, .iconst 1, []), (970, .iadd, []), (971, .iaload, []), (972, .aload_n 0, []), (973, .iload_n 3, []), (974, .iconst 2, []), (975, .iadd, []), (976, .iaload, []), (977, .invokevirtual 116, [308, 2, 1974, 0]), (980, .pop, []), (981, .goto 605, []), (984, .aload_n 1, []), (985, .aload_n 0, []), (986, .iload_n 3, []), (987, .iconst 1, []), (988, .iadd, []), (989, .iaload, []), (990, .aload_n 0, []), (991, .iload_n 3, []), (992, .iconst 2, []), (993, .iadd, []), (994, .iaload, []), (995, .invokevirtual 117, [160, 2, 1011, 0]), (998, .pop, []), (999, .aload_n 2, []), (1000, .aload_n 0, []), (1001, .iload_n 3, []), (1002, .iconst 1, []), (1003, .iadd, []), (1004, .iaload, []), (1005, .aload_n 0, []), (1006, .iload_n 3, []), (1007, .iconst 2, []), (1008, .iadd, []), (1009, .iaload, []), (1010, .invokevirtual 120, [309, 2, 1978, 0]), (1013, .pop, []), (1014, .goto 572, []), (1017, .aload_n 1, []), (1018, .aload_n 0, []), (1019, .iload_n 3, []), (1020, .iconst 1, []), (1021, .iadd, []), (1022, .iaload, []), (1023, .aload_n 0, []), (1024, .iload_n 3, []), (1025, .iconst 2, []), (1026, .iadd, []), (1027, .iaload, []), (1028, .aload_n 0, []), (1029, .iload_n 3, []), (1030, .iconst 3, []), (1031, .iadd, []), (1032, .iaload, []), (1033, .invokevirtual 121, [151, 3, 927, 0]), (1036, .pop, []), (1037, .aload_n 2, []), (1038, .aload_n 0, []), (1039, .iload_n 3, []), (1040, .iconst 1, []), (1041, .iadd, []), (1042, .iaload, []), (1043, .aload_n 0, []), (1044, .iload_n 3, []), (1045, .iconst 2, []), (1046, .iadd, []), (1047, .iaload, []), (1048, .aload_n 0, []), (1049, .iload_n 3, []), (1050, .iconst 3, []), (1051, .iadd, []), (1052, .iaload, []), (1053, .invokevirtual 124, [268, 3, 1814, 0]), (1056, .pop, []), (1057, .goto 529, []), (1060, .aload_n 1, []), (1061, .aload_n 0, []), (1062, .iload_n 3, []), (1063, .iconst 1, []), (1064, .iadd, []), (1065, .iaload, []), (1066, .invokevirtual 125, [170, 1, 1131, 0]), (1069, .pop, []), (1070, .aload_n 2, []), (1071, .aload_n 0, []), (1072, .iload_n 3, []), (1073, .iconst 1, []), (1074, .iadd, []), (1075, .iaload, []), (1076, .invokevirtual 128, [269, 1, 1818, 0]), (1079, .pop, []), (1080, .goto 506, []), (1083, .aload_n 1, []), (1084, .aload_n 0, []), (1085, .iload_n 3, []), (1086, .iconst 1, []), (1087, .iadd, []), (1088, .iaload, []), (1089, .aload_n 0, []), (1090, .iload_n 3, []), (1091, .iconst 2, []), (1092, .iadd, []), (1093, .iaload, []), (1094, .invokevirtual 129, [168, 2, 1115, 0]), (1097, .pop, []), (1098, .aload_n 2, []), (1099, .aload_n 0, []), (1100, .iload_n 3, []), (1101, .iconst 1, []), (1102, .iadd, []), (1103, .iaload, []), (1104, .aload_n 0, []), (1105, .iload_n 3, []), (1106, .iconst 2, []), (1107, .iadd, []), (1108, .iaload, []), (1109, .invokevirtual 132, [265, 2, 1802, 0]), (1112, .pop, []), (1113, .goto 473, []), (1116, .aload_n 1, []), (1117, .aload_n 0, []), (1118, .iload_n 3, []), (1119, .iconst 1, []), (1120, .iadd, []), (1121, .iaload, []), (1122, .invokevirtual 133, [175, 1, 1195, 0]), (1125, .pop, []), (1126, .aload_n 2, []), (1127, .aload_n 0, []), (1128, .iload_n 3, []), (1129, .iconst 1, []), (1130, .iadd, []), (1131, .iaload, []), (1132, .invokevirtual 136, [270, 1, 1823, 0]), (1135, .pop, []), (1136, .goto 450, []), (1139, .aload_n 1, []), (1140, .aload_n 0, []), (1141, .iload_n 3, []), (1142, .iconst 1, []), (1143, .iadd, []), (1144, .iaload, []), (1145, .invokevirtual 137, [162, 1, 1032, 0]), (1148, .pop, []), (1149, .aload_n 2, []), (1150, .aload_n 0, []), (1151, .iload_n 3, []), (1152, .iconst 1, []), (1153, .iadd, []), (1154, .iaload, []), (1155, .invokevirtual 140, [297, 1, 1922, 0]), (1158, .pop, []), (1159, .goto 427, []), (1162, .aload_n 1, []), (1163, .aload_n 0, []), (1164, .iload_n 3, []), (1165, .iconst 1, []), (1166, .iadd, []), (1167, .iaload, []), (1168, .invokevirtual 141, [179, 1, 1244, 0]), (1171, .pop, []), (1172, .aload_n 2, []), (1173, .aload_n 0, []), (1174, .iload_n 3, []), (1175, .iconst 1, []), (1176, .iadd, []), (1177, .iaload, []), (1178, .invokevirtual 144, [283, 1, 1875, 0]), (1181, .pop, []), (1182, .goto 404, []), (1185, .aload_n 1, []), (1186, .invokevirtual 145, [178, 0, 1227, 0]), (1189, .pop, []), (1190, .aload_n 2, []), (1191, .invokevirtual 148, [282, 0, 1867, 0]), (1194, .pop, []), (1195, .goto 391, []), (1198, .aload_n 1, []), (1199, .aload_n 0, []), (1200, .iload_n 3, []), (1201, .iconst 1, []), (1202, .iadd, []), (1203, .iaload, []), (1204, .invokevirtual 149, [176, 1, 1203, 0]), (1207, .pop, []), (1208, .aload_n 2, []), (1209, .aload_n 0, []), (1210, .iload_n 3, []), (1211, .iconst 1, []), (1212, .iadd, []), (1213, .iaload, []), (1214, .invokevirtual 152, [284, 1, 1879, 0]), (1217, .pop, []), (1218, .goto 368, []), (1221, .aload_n 1, []), (1222, .aload_n 0, []), (1223, .iload_n 3, []), (1224, .iconst 1, []), (1225, .iadd, []), (1226, .iaload, []), (1227, .invokevirtual 153, [185, 1, 1316, 0]), (1230, .pop, []), (1231, .aload_n 2, []), (1232, .aload_n 0, []), (1233, .iload_n 3, []), (1234, .iconst 1, []), (1235, .iadd, []), (1236, .iaload, []), (1237, .invokevirtual 156, [288, 1, 1891, 0]), (1240, .pop, []), (1241, .goto 345, []), (1244, .aload_n 1, []), (1245, .aload_n 0, []), (1246, .iload_n 3, []), (1247, .iconst 1, []), (1248, .iadd, []), (1249, .iaload, []), (1250, .aload_n 0, []), (1251, .iload_n 3, []), (1252, .iconst 2, []), (1253, .iadd, []), (1254, .iaload, []), (1255, .invokevirtual 157, [181, 2, 1261, 0]), (1258, .pop, []), (1259, .aload_n 2, []), (1260, .aload_n 0, []), (1261, .iload_n 3, []), (1262, .iconst 1, []), (1263, .iadd, []), (1264, .iaload, []), (1265, .aload_n 0, []), (1266, .iload_n 3, []), (1267, .iconst 2, []), (1268, .iadd, []), (1269, .iaload, []), (1270, .invokevirtual 160, [274, 2, 1835, 0]), (1273, .pop, []), (1274, .goto 312, []), (1277, .aload_n 1, []), (1278, .aload_n 0, []), (1279, .iload_n 3, []), (1280, .iconst 1, []), (1281, .iadd, []), (1282, .iaload, []), (1283, .aload_n 0, []), (1284, .iload_n 3, []), (1285, .iconst 2, []), (1286, .iadd, []), (1287, .iaload, []), (1288, .aload_n 0, []), (1289, .iload_n 3, []), (1290, .iconst 3, []), (1291, .iadd, []), (1292, .iaload, []), (1293, .aload_n 0, []), (1294, .iload_n 3, []), (1295, .iconst 4, []), (1296, .iadd, []), (1297, .iaload, []), (1298, .invokevirtual 161, [152, 4, 933, 0]), (1301, .pop, []), (1302, .aload_n 2, []), (1303, .aload_n 0, []), (1304, .iload_n 3, []), (1305, .iconst 1, []), (1306, .iadd, []), (1307, .iaload, []), (1308, .aload_n 0, []), (1309, .iload_n 3, []), (1310, .iconst 2, []), (1311, .iadd, []), (1312, .iaload, []), (1313, .aload_n 0, []), (1314, .iload_n 3, []), (1315, .iconst 3, []), (1316, .iadd, []), (1317, .iaload, []), (1318, .aload_n 0, []), (1319, .iload_n 3, []), (1320, .iconst 4, []), (1321, .iadd, []), (1322, .iaload, []), (1323, .invokevirtual 165, [289, 4, 1903, 0]), (1326, .pop, []), (1327, .goto 259, []), (1330, .aload_n 1, []), (1331, .aload_n 0, []), (1332, .iload_n 3, []), (1333, .iconst 1, []), (1334, .iadd, []), (1335, .iaload, []), (1336, .invokevirtual 166, [186, 1, 1332, 0]), (1339, .pop, []), (1340, .aload_n 2, []), (1341, .aload_n 0, []), (1342, .iload_n 3, []), (1343, .iconst 1, []), (1344, .iadd, []), (1345, .iaload, []), (1346, .invokevirtual 169, [294, 1, 1907, 0]), (1349, .pop, []), (1350, .goto 236, []), (1353, .aload_n 1, []), (1354, .aload_n 0, []), (1355, .iload_n 3, []), (1356, .iconst 1, []), (1357, .iadd, []), (1358, .iaload, []), (1359, .invokevirtual 170, [163, 1, 1050, 0]), (1362, .pop, []), (1363, .aload_n 2, []), (1364, .aload_n 0, []), (1365, .iload_n 3, []), (1366, .iconst 1, []), (1367, .iadd, []), (1368, .iaload, []), (1369, .invokevirtual 173, [299, 1, 1926, 0]), (1372, .pop, []), (1373, .goto 213, []), (1376, .aload_n 1, []), (1377, .aload_n 0, []), (1378, .iload_n 3, []), (1379, .iconst 1, []), (1380, .iadd, []), (1381, .iaload, []), (1382, .aload_n 0, []), (1383, .iload_n 3, []), (1384, .iconst 2, []), (1385, .iadd, []), (1386, .iaload, []), (1387, .invokevirtual 174, [187, 2, 1358, 0]), (1390, .pop, []), (1391, .aload_n 2, []), (1392, .aload_n 0, []), (1393, .iload_n 3, []), (1394, .iconst 1, []), (1395, .iadd, []), (1396, .iaload, []), (1397, .aload_n 0, []), (1398, .iload_n 3, []), (1399, .iconst 2, []), (1400, .iadd, []), (1401, .iaload, []), (1402, .invokevirtual 177, [302, 2, 1942, 0]), (1405, .pop, []), (1406, .goto 180, []), (1409, .aload_n 1, []), (1410, .aload_n 0, []), (1411, .iload_n 3, []), (1412, .iconst 1, []), (1413, .iadd, []), (1414, .iaload, []), (1415, .aload_n 0, []), (1416, .iload_n 3, []), (1417, .iconst 2, []), (1418, .iadd, []), (1419, .iaload, []), (1420, .invokevirtual 178, [182, 2, 1270, 0]), (1423, .pop, []), (1424, .aload_n 2, []), (1425, .aload_n 0, []), (1426, .iload_n 3, []), (1427, .iconst 1, []), (1428, .iadd, []), (1429, .iaload, []), (1430, .aload_n 0, []), (1431, .iload_n 3, []), (1432, .iconst 2, []), (1433, .iadd, []), (1434, .iaload, []), (1435, .invokevirtual 181, [305, 2, 1954, 0]), (1438, .pop, []), (1439, .goto 147, []), (1442, .aload_n 1, []), (1443, .aload_n 0, []), (1444, .iload_n 3, []), (1445, .iconst 1, []), (1446, .iadd, []), (1447, .iaload, []), (1448, .invokevirtual 182, [161, 1, 1019, 0]), (1451, .pop, []), (1452, .aload_n 2, []), (1453, .aload_n 0, []), (1454, .iload_n 3, []), (1455, .iconst 1, []), (1456, .iadd, []), (1457, .iaload, []), (1458, .invokevirtual 185, [307, 1, 1966, 0]), (1461, .pop, []), (1462, .goto 124, []), (1465, .aload_n 1, []), (1466, .invokevirtual 186, [183, 0, 1299, 0]), (1469, .pop, []), (1470, .aload_n 2, []), (1471, .invokevirtual 189, [310, 0, 1982, 0]), (1474, .pop, []), (1475, .goto 111, []), (1478, .aload_n 1, []), (1479, .aload_n 0, []), (1480, .iload_n 3, []), (1481, .iconst 1, []), (1482, .iadd, []), (1483, .iaload, []), (1484, .aload_n 0, []), (1485, .iload_n 3, []), (1486, .iconst 2, []), (1487, .iadd, []), (1488, .iaload, []), (1489, .invokevirtual 190, [184, 2, 1307, 0]), (1492, .pop, []), (1493, .aload_n 2, []), (1494, .aload_n 0, []), (1495, .iload_n 3, []), (1496, .iconst 1, []), (1497, .iadd, []), (1498, .iaload, []), (1499, .aload_n 0, []), (1500, .iload_n 3, []), (1501, .iconst 2, []), (1502, .iadd, []), (1503, .iaload, []), (1504, .invokevirtual 193, [311, 2, 1986, 0]), (1507, .pop, []), (1508, .goto 78, []), (1511, .aload_n 1, []), (1512, .invokevirtual 194, [153, 0, 937, 0]), (1515, .pop, []), (1516, .aload_n 2, []), (1517, .invokevirtual 198, [246, 0, 1677, 0]), (1520, .pop, []), (1521, .goto 65, []), (1524, .aload_n 1, []), (1525, .aload_n 0, []), (1526, .iload_n 3, []), (1527, .iconst 1, []), (1528, .iadd, []), (1529, .iaload, []), (1530, .ifCond .eq 7, []), (1533, .iconst 1, []), (1534, .goto 4, []), (1537, .iconst 0, []), (1538, .invokevirtual 199, [154, 1, 950, 0]), (1541, .pop, []), (1542, .aload_n 2, []), (1543, .aload_n 0, []), (1544, .iload_n 3, []), (1545, .iconst 1, []), (1546, .iadd, []), (1547, .iaload, []), (1548, .ifCond .eq 7, []), (1551, .iconst 1, []), (1552, .goto 4, []), (1555, .iconst 0, []), (1556, .invokevirtual 203, [316, 1, 2007, 0]), (1559, .pop, []), (1560, .goto 26, []), (1563, .aload_n 1, []), (1564, .aload_n 0, []), (1565, .iload_n 3, []), (1566, .iconst 1, []), (1567, .iadd, []), (1568, .iaload, []), (1569, .invokevirtual 204, [165, 1, 1071, 0]), (1572, .pop, []), (1573, .aload_n 2, []), (1574, .aload_n 0, []), (1575, .iload_n 3, []), (1576, .iconst 1, []), (1577, .iadd, []), (1578, .iaload, []), (1579, .invokevirtual 207, [319, 1, 2011, 0]), (1582, .pop, []), (1583, .goto 3, []), (1586, .iinc 3 6, []), (1589, .goto (-1571), []), (1592, .iconst 1, []), (1593, .ireturn, [])]
/-- the law itself -/
def meL : mM := (9, x, code, 4, ret, 98, [], mcL)
end
section
/-- the check of a row, to be counted out -/
def m_chkC (y : mM) : Bool := y.2.2.2.2.2.2.2.all fun q => decide (decode y.2.2.1 q.1 = .ok (q.2.1, m_len q.2.1 q.2.2)) && m_okI y.2.1.cls y.2.1.name m_tab q.1 q.2.1 q.2.2
theorem m_chkC_ok {y : mM} (h : m_chkC y = true) : m_okC m_tab y := fun q hq => by
  have h1 := List.all_eq_true.mp h q hq
  simp only [Bool.and_eq_true, decide_eq_true_eq] at h1
  exact h1
def m_chkH (y : mM) : Bool := plainName y.2.1.cls && decide (y.2.1.cls ≠ "java/lang/invoke/MethodHandle" ∧ y.2.1.cls ≠ "java/lang/invoke/VarHandle") && decide (y.2.2.2.1 ≤ 60) && (match y.2.2.2.2.2.2.1 with
  | [p1, p2, p3, p4] => decide (lw_tbl[p1]? = some (.code y.2.1 y.2.2.1 y.2.2.2.1 y.2.2.2.2.1)) && goodWord (.code y.2.1 y.2.2.1 y.2.2.2.1 y.2.2.2.2.1) && m_w (Int.ofNat p2) (.initialized y.2.1.cls) && (if y.1 = 0 then m_w (Int.ofNat p3) (.static y.2.1) else m_w (Int.ofNat p3) (.instanceMethod y.2.1)) && (if y.1 = 1 then m_w (Int.ofNat p4) (.selects y.2.1.cls y.2.1 y.2.1) else true)
  | _ => false) && (if y.1 = 2 then decide (y.2.1.name = "<init>" ∧ y.2.2.2.2.1 = none) else true) && (if y.1 = 0 then true else (decide (y.2.2.2.2.2.1 = 99 ∧ y.2.1.cls = "java/lang/String") || (match m_cl[y.2.2.2.2.2.1]? with
    | some q => decide (q.1 = y.2.1.cls ∧ y.2.2.2.2.2.1 ≠ 99)
    | none => false)))
theorem m_chkH_ok {y : mM} (h : m_chkH y = true) : m_okH y := by
  unfold m_chkH at h
  simp only [Bool.and_eq_true, decide_eq_true_eq] at h
  obtain ⟨⟨⟨⟨⟨h1, h2⟩, h3⟩, h4⟩, h5⟩, h6⟩ := h
  split at h4
  · next p1 p2 p3 p4 hp =>
    simp only [Bool.and_eq_true, decide_eq_true_eq] at h4
    obtain ⟨⟨⟨⟨g1, g2⟩, g3⟩, g4⟩, g5⟩ := h4
    refine ⟨h1, h2, h3, m_TW_in g1 g2, m_w_in g3, fun k => ?_, fun k => ?_, fun k => ?_, fun k => ?_, fun k => ?_⟩
    · rw [if_pos k] at g4; exact m_w_in g4
    · rw [if_neg k] at g4; exact m_w_in g4
    · rw [if_pos k] at g5; exact m_w_in g5
    · rw [if_pos k] at h5; exact of_decide_eq_true h5
    · rw [if_neg k] at h6
      rcases (Bool.or_eq_true _ _).mp h6 with z | z
      · exact Or.inl (of_decide_eq_true z)
      · right
        split at z
        · next q hq => exact ⟨q, hq, of_decide_eq_true z⟩
        · cases z
  · cases h4
end
section
theorem okH0 : m_chkH me0 = true := by decide +kernel
theorem okC0 : m_chkC me0 = true := by decide +kernel
theorem okH1 : m_chkH me1 = true := by decide +kernel
theorem okC1 : m_chkC me1 = true := by decide +kernel
theorem okH2 : m_chkH me2 = true := by decide +kernel
theorem okC2 : m_chkC me2 = true := by decide +kernel
theorem okH3 : m_chkH me3 = true := by decide +kernel
theorem okC3 : m_chkC me3 = true := by decide +kernel
theorem okH4 : m_chkH me4 = true := by decide +kernel
theorem okC4 : m_chkC me4 = true := by decide +kernel
theorem okH5 : m_chkH me5 = true := by decide +kernel
theorem okC5 : m_chkC me5 = true := by decide +kernel
theorem okH6 : m_chkH me6 = true := by decide +kernel
theorem okC6 : m_chkC me6 = true := by decide +kernel
theorem okH7 : m_chkH me7 = true := by decide +kernel
theorem okC7 : m_chkC me7 = true := by decide +kernel
theorem okH8 : m_chkH me8 = true := by decide +kernel
theorem okC8 : m_chkC me8 = true := by decide +kernel
theorem okH9 : m_chkH me9 = true := by decide +kernel
theorem okC9 : m_chkC me9 = true := by decide +kernel
theorem okH10 : m_chkH me10 = true := by decide +kernel
theorem okC10 : m_chkC me10 = true := by decide +kernel
theorem okH11 : m_chkH me11 = true := by decide +kernel
theorem okC11 : m_chkC me11 = true := by decide +kernel
theorem okH12 : m_chkH me12 = true := by decide +kernel
theorem okC12 : m_chkC me12 = true := by decide +kernel
theorem okH13 : m_chkH me13 = true := by decide +kernel
theorem okC13 : m_chkC me13 = true := by decide +kernel
theorem okH14 : m_chkH me14 = true := by decide +kernel
theorem okC14 : m_chkC me14 = true := by decide +kernel
theorem okH15 : m_chkH me15 = true := by decide +kernel
theorem okC15 : m_chkC me15 = true := by decide +kernel
theorem okH16 : m_chkH me16 = true := by decide +kernel
theorem okC16 : m_chkC me16 = true := by decide +kernel
theorem okH17 : m_chkH me17 = true := by decide +kernel
theorem okC17 : m_chkC me17 = true := by decide +kernel
theorem okH18 : m_chkH me18 = true := by decide +kernel
theorem okC18 : m_chkC me18 = true := by decide +kernel
theorem okH19 : m_chkH me19 = true := by decide +kernel
theorem okC19 : m_chkC me19 = true := by decide +kernel
theorem okH20 : m_chkH me20 = true := by decide +kernel
theorem okC20 : m_chkC me20 = true := by decide +kernel
theorem okH21 : m_chkH me21 = true := by decide +kernel
theorem okC21 : m_chkC me21 = true := by decide +kernel
theorem okH22 : m_chkH me22 = true := by decide +kernel
theorem okC22 : m_chkC me22 = true := by decide +kernel
theorem okH23 : m_chkH me23 = true := by decide +kernel
theorem okC23 : m_chkC me23 = true := by decide +kernel
theorem okH24 : m_chkH me24 = true := by decide +kernel
theorem okC24 : m_chkC me24 = true := by decide +kernel
theorem okH25 : m_chkH me25 = true := by decide +kernel
theorem okC25 : m_chkC me25 = true := by decide +kernel
theorem okH26 : m_chkH me26 = true := by decide +kernel
theorem okC26 : m_chkC me26 = true := by decide +kernel
theorem okH27 : m_chkH me27 = true := by decide +kernel
theorem okC27 : m_chkC me27 = true := by decide +kernel
theorem okH28 : m_chkH me28 = true := by decide +kernel
theorem okC28 : m_chkC me28 = true := by decide +kernel
theorem okH29 : m_chkH me29 = true := by decide +kernel
theorem okC29 : m_chkC me29 = true := by decide +kernel
theorem okH30 : m_chkH me30 = true := by decide +kernel
theorem okC30 : m_chkC me30 = true := by decide +kernel
theorem okH31 : m_chkH me31 = true := by decide +kernel
theorem okC31 : m_chkC me31 = true := by decide +kernel
theorem okH32 : m_chkH me32 = true := by decide +kernel
theorem okC32 : m_chkC me32 = true := by decide +kernel
theorem okH33 : m_chkH me33 = true := by decide +kernel
theorem okC33 : m_chkC me33 = true := by decide +kernel
theorem okH34 : m_chkH me34 = true := by decide +kernel
theorem okC34 : m_chkC me34 = true := by decide +kernel
theorem okH35 : m_chkH me35 = true := by decide +kernel
theorem okC35 : m_chkC me35 = true := by decide +kernel
theorem okH36 : m_chkH me36 = true := by decide +kernel
theorem okC36 : m_chkC me36 = true := by decide +kernel
theorem okH37 : m_chkH me37 = true := by decide +kernel
theorem okC37 : m_chkC me37 = true := by decide +kernel
theorem okH38 : m_chkH me38 = true := by decide +kernel
theorem okC38 : m_chkC me38 = true := by decide +kernel
theorem okH39 : m_chkH me39 = true := by decide +kernel
theorem okC39 : m_chkC me39 = true := by decide +kernel
theorem okH40 : m_chkH me40 = true := by decide +kernel
theorem okC40 : m_chkC me40 = true := by decide +kernel
theorem okH41 : m_chkH me41 = true := by decide +kernel
theorem okC41 : m_chkC me41 = true := by decide +kernel
theorem okH42 : m_chkH me42 = true := by decide +kernel
theorem okC42 : m_chkC me42 = true := by decide +kernel
theorem okH43 : m_chkH me43 = true := by decide +kernel
theorem okC43 : m_chkC me43 = true := by decide +kernel
theorem okH44 : m_chkH me44 = true := by decide +kernel
theorem okC44 : m_chkC me44 = true := by decide +kernel
theorem okH45 : m_chkH me45 = true := by decide +kernel
theorem okC45 : m_chkC me45 = true := by decide +kernel
theorem okH46 : m_chkH me46 = true := by decide +kernel
theorem okC46 : m_chkC me46 = true := by decide +kernel
theorem okH47 : m_chkH me47 = true := by decide +kernel
theorem okC47 : m_chkC me47 = true := by decide +kernel
theorem okH48 : m_chkH me48 = true := by decide +kernel
theorem okC48 : m_chkC me48 = true := by decide +kernel
theorem okH49 : m_chkH me49 = true := by decide +kernel
theorem okC49 : m_chkC me49 = true := by decide +kernel
theorem okH50 : m_chkH me50 = true := by decide +kernel
theorem okC50 : m_chkC me50 = true := by decide +kernel
theorem okH51 : m_chkH me51 = true := by decide +kernel
theorem okC51 : m_chkC me51 = true := by decide +kernel
theorem okH52 : m_chkH me52 = true := by decide +kernel
theorem okC52 : m_chkC me52 = true := by decide +kernel
theorem okH53 : m_chkH me53 = true := by decide +kernel
theorem okC53 : m_chkC me53 = true := by decide +kernel
theorem okH54 : m_chkH me54 = true := by decide +kernel
theorem okC54 : m_chkC me54 = true := by decide +kernel
theorem okH55 : m_chkH me55 = true := by decide +kernel
theorem okC55 : m_chkC me55 = true := by decide +kernel
theorem okH56 : m_chkH me56 = true := by decide +kernel
theorem okC56 : m_chkC me56 = true := by decide +kernel
theorem okH57 : m_chkH me57 = true := by decide +kernel
theorem okC57 : m_chkC me57 = true := by decide +kernel
theorem okH58 : m_chkH me58 = true := by decide +kernel
theorem okC58 : m_chkC me58 = true := by decide +kernel
theorem okH59 : m_chkH me59 = true := by decide +kernel
theorem okC59 : m_chkC me59 = true := by decide +kernel
end
section
theorem okH60 : m_chkH me60 = true := by decide +kernel
theorem okC60 : m_chkC me60 = true := by decide +kernel
theorem okH61 : m_chkH me61 = true := by decide +kernel
theorem okC61 : m_chkC me61 = true := by decide +kernel
theorem okH62 : m_chkH me62 = true := by decide +kernel
theorem okC62 : m_chkC me62 = true := by decide +kernel
theorem okH63 : m_chkH me63 = true := by decide +kernel
theorem okC63 : m_chkC me63 = true := by decide +kernel
theorem okH64 : m_chkH me64 = true := by decide +kernel
theorem okC64 : m_chkC me64 = true := by decide +kernel
theorem okH65 : m_chkH me65 = true := by decide +kernel
theorem okC65 : m_chkC me65 = true := by decide +kernel
theorem okH66 : m_chkH me66 = true := by decide +kernel
theorem okC66 : m_chkC me66 = true := by decide +kernel
theorem okH67 : m_chkH me67 = true := by decide +kernel
theorem okC67 : m_chkC me67 = true := by decide +kernel
theorem okH68 : m_chkH me68 = true := by decide +kernel
theorem okC68 : m_chkC me68 = true := by decide +kernel
theorem okH69 : m_chkH me69 = true := by decide +kernel
theorem okC69 : m_chkC me69 = true := by decide +kernel
theorem okH70 : m_chkH me70 = true := by decide +kernel
theorem okC70 : m_chkC me70 = true := by decide +kernel
theorem okH71 : m_chkH me71 = true := by decide +kernel
theorem okC71 : m_chkC me71 = true := by decide +kernel
theorem okH72 : m_chkH me72 = true := by decide +kernel
theorem okC72 : m_chkC me72 = true := by decide +kernel
theorem okH73 : m_chkH me73 = true := by decide +kernel
theorem okC73 : m_chkC me73 = true := by decide +kernel
theorem okH74 : m_chkH me74 = true := by decide +kernel
theorem okC74 : m_chkC me74 = true := by decide +kernel
theorem okH75 : m_chkH me75 = true := by decide +kernel
theorem okC75 : m_chkC me75 = true := by decide +kernel
theorem okH76 : m_chkH me76 = true := by decide +kernel
theorem okC76 : m_chkC me76 = true := by decide +kernel
theorem okH77 : m_chkH me77 = true := by decide +kernel
theorem okC77 : m_chkC me77 = true := by decide +kernel
theorem okH78 : m_chkH me78 = true := by decide +kernel
theorem okC78 : m_chkC me78 = true := by decide +kernel
theorem okH79 : m_chkH me79 = true := by decide +kernel
theorem okC79 : m_chkC me79 = true := by decide +kernel
theorem okH80 : m_chkH me80 = true := by decide +kernel
theorem okC80 : m_chkC me80 = true := by decide +kernel
theorem okH81 : m_chkH me81 = true := by decide +kernel
theorem okC81 : m_chkC me81 = true := by decide +kernel
theorem okH82 : m_chkH me82 = true := by decide +kernel
theorem okC82 : m_chkC me82 = true := by decide +kernel
theorem okH83 : m_chkH me83 = true := by decide +kernel
theorem okC83 : m_chkC me83 = true := by decide +kernel
theorem okH84 : m_chkH me84 = true := by decide +kernel
theorem okC84 : m_chkC me84 = true := by decide +kernel
theorem okH85 : m_chkH me85 = true := by decide +kernel
theorem okC85 : m_chkC me85 = true := by decide +kernel
theorem okH86 : m_chkH me86 = true := by decide +kernel
theorem okC86 : m_chkC me86 = true := by decide +kernel
theorem okH87 : m_chkH me87 = true := by decide +kernel
theorem okC87 : m_chkC me87 = true := by decide +kernel
theorem okH88 : m_chkH me88 = true := by decide +kernel
theorem okC88 : m_chkC me88 = true := by decide +kernel
theorem okH89 : m_chkH me89 = true := by decide +kernel
theorem okC89 : m_chkC me89 = true := by decide +kernel
theorem okH90 : m_chkH me90 = true := by decide +kernel
theorem okC90 : m_chkC me90 = true := by decide +kernel
theorem okH91 : m_chkH me91 = true := by decide +kernel
theorem okC91 : m_chkC me91 = true := by decide +kernel
theorem okH92 : m_chkH me92 = true := by decide +kernel
theorem okC92 : m_chkC me92 = true := by decide +kernel
theorem okH93 : m_chkH me93 = true := by decide +kernel
theorem okC93 : m_chkC me93 = true := by decide +kernel
theorem okH94 : m_chkH me94 = true := by decide +kernel
theorem okC94 : m_chkC me94 = true := by decide +kernel
theorem okH95 : m_chkH me95 = true := by decide +kernel
theorem okC95 : m_chkC me95 = true := by decide +kernel
theorem okH96 : m_chkH me96 = true := by decide +kernel
theorem okC96 : m_chkC me96 = true := by decide +kernel
theorem okH97 : m_chkH me97 = true := by decide +kernel
theorem okC97 : m_chkC me97 = true := by decide +kernel
theorem okH98 : m_chkH me98 = true := by decide +kernel
theorem okC98 : m_chkC me98 = true := by decide +kernel
theorem okH99 : m_chkH me99 = true := by decide +kernel
theorem okC99 : m_chkC me99 = true := by decide +kernel
theorem okH100 : m_chkH me100 = true := by decide +kernel
theorem okC100 : m_chkC me100 = true := by decide +kernel
theorem okH101 : m_chkH me101 = true := by decide +kernel
theorem okC101 : m_chkC me101 = true := by decide +kernel
theorem okH102 : m_chkH me102 = true := by decide +kernel
theorem okC102 : m_chkC me102 = true := by decide +kernel
theorem okH103 : m_chkH me103 = true := by decide +kernel
theorem okC103 : m_chkC me103 = true := by decide +kernel
theorem okH104 : m_chkH me104 = true := by decide +kernel
theorem okC104 : m_chkC me104 = true := by decide +kernel
theorem okH105 : m_chkH me105 = true := by decide +kernel
theorem okC105 : m_chkC me105 = true := by decide +kernel
theorem okH106 : m_chkH me106 = true := by decide +kernel
theorem okC106 : m_chkC me106 = true := by decide +kernel
theorem okH107 : m_chkH me107 = true := by decide +kernel
theorem okC107 : m_chkC me107 = true := by decide +kernel
theorem okH108 : m_chkH me108 = true := by decide +kernel
theorem okC108 : m_chkC me108 = true := by decide +kernel
theorem okH109 : m_chkH me109 = true := by decide +kernel
theorem okC109 : m_chkC me109 = true := by decide +kernel
theorem okH110 : m_chkH me110 = true := by decide +kernel
theorem okC110 : m_chkC me110 = true := by decide +kernel
theorem okH111 : m_chkH me111 = true := by decide +kernel
theorem okC111 : m_chkC me111 = true := by decide +kernel
theorem okH112 : m_chkH me112 = true := by decide +kernel
theorem okC112 : m_chkC me112 = true := by decide +kernel
theorem okH113 : m_chkH me113 = true := by decide +kernel
theorem okC113 : m_chkC me113 = true := by decide +kernel
theorem okH114 : m_chkH me114 = true := by decide +kernel
theorem okC114 : m_chkC me114 = true := by decide +kernel
theorem okH115 : m_chkH me115 = true := by decide +kernel
theorem okC115 : m_chkC me115 = true := by decide +kernel
theorem okH116 : m_chkH me116 = true := by decide +kernel
theorem okC116 : m_chkC me116 = true := by decide +kernel
theorem okH117 : m_chkH me117 = true := by decide +kernel
theorem okC117 : m_chkC me117 = true := by decide +kernel
theorem okH118 : m_chkH me118 = true := by decide +kernel
theorem okC118 : m_chkC me118 = true := by decide +kernel
theorem okH119 : m_chkH me119 = true := by decide +kernel
theorem okC119 : m_chkC me119 = true := by decide +kernel
end
section
theorem okH120 : m_chkH me120 = true := by decide +kernel
theorem okC120 : m_chkC me120 = true := by decide +kernel
theorem okH121 : m_chkH me121 = true := by decide +kernel
theorem okC121 : m_chkC me121 = true := by decide +kernel
theorem okH122 : m_chkH me122 = true := by decide +kernel
theorem okC122 : m_chkC me122 = true := by decide +kernel
theorem okH123 : m_chkH me123 = true := by decide +kernel
theorem okC123 : m_chkC me123 = true := by decide +kernel
theorem okH124 : m_chkH me124 = true := by decide +kernel
theorem okC124 : m_chkC me124 = true := by decide +kernel
theorem okH125 : m_chkH me125 = true := by decide +kernel
theorem okC125 : m_chkC me125 = true := by decide +kernel
theorem okH126 : m_chkH me126 = true := by decide +kernel
theorem okC126 : m_chkC me126 = true := by decide +kernel
theorem okH127 : m_chkH me127 = true := by decide +kernel
theorem okC127 : m_chkC me127 = true := by decide +kernel
theorem okH128 : m_chkH me128 = true := by decide +kernel
theorem okC128 : m_chkC me128 = true := by decide +kernel
theorem okH129 : m_chkH me129 = true := by decide +kernel
theorem okC129 : m_chkC me129 = true := by decide +kernel
theorem okH130 : m_chkH me130 = true := by decide +kernel
theorem okC130 : m_chkC me130 = true := by decide +kernel
theorem okH131 : m_chkH me131 = true := by decide +kernel
theorem okC131 : m_chkC me131 = true := by decide +kernel
theorem okH132 : m_chkH me132 = true := by decide +kernel
theorem okC132 : m_chkC me132 = true := by decide +kernel
theorem okH133 : m_chkH me133 = true := by decide +kernel
theorem okC133 : m_chkC me133 = true := by decide +kernel
theorem okH134 : m_chkH me134 = true := by decide +kernel
theorem okC134 : m_chkC me134 = true := by decide +kernel
theorem okH135 : m_chkH me135 = true := by decide +kernel
theorem okC135 : m_chkC me135 = true := by decide +kernel
theorem okH136 : m_chkH me136 = true := by decide +kernel
theorem okC136 : m_chkC me136 = true := by decide +kernel
theorem okH137 : m_chkH me137 = true := by decide +kernel
theorem okC137 : m_chkC me137 = true := by decide +kernel
theorem okH138 : m_chkH me138 = true := by decide +kernel
theorem okC138 : m_chkC me138 = true := by decide +kernel
theorem okH139 : m_chkH me139 = true := by decide +kernel
theorem okC139 : m_chkC me139 = true := by decide +kernel
theorem okH140 : m_chkH me140 = true := by decide +kernel
theorem okC140 : m_chkC me140 = true := by decide +kernel
theorem okH141 : m_chkH me141 = true := by decide +kernel
theorem okC141 : m_chkC me141 = true := by decide +kernel
theorem okH142 : m_chkH me142 = true := by decide +kernel
theorem okC142 : m_chkC me142 = true := by decide +kernel
theorem okH143 : m_chkH me143 = true := by decide +kernel
theorem okC143 : m_chkC me143 = true := by decide +kernel
theorem okH144 : m_chkH me144 = true := by decide +kernel
theorem okC144 : m_chkC me144 = true := by decide +kernel
theorem okH145 : m_chkH me145 = true := by decide +kernel
theorem okC145 : m_chkC me145 = true := by decide +kernel
theorem okH146 : m_chkH me146 = true := by decide +kernel
theorem okC146 : m_chkC me146 = true := by decide +kernel
theorem okH147 : m_chkH me147 = true := by decide +kernel
theorem okC147 : m_chkC me147 = true := by decide +kernel
theorem okH148 : m_chkH me148 = true := by decide +kernel
theorem okC148 : m_chkC me148 = true := by decide +kernel
theorem okH149 : m_chkH me149 = true := by decide +kernel
theorem okC149 : m_chkC me149 = true := by decide +kernel
theorem okH150 : m_chkH me150 = true := by decide +kernel
theorem okC150 : m_chkC me150 = true := by decide +kernel
theorem okH151 : m_chkH me151 = true := by decide +kernel
theorem okC151 : m_chkC me151 = true := by decide +kernel
theorem okH152 : m_chkH me152 = true := by decide +kernel
theorem okC152 : m_chkC me152 = true := by decide +kernel
theorem okH153 : m_chkH me153 = true := by decide +kernel
theorem okC153 : m_chkC me153 = true := by decide +kernel
theorem okH154 : m_chkH me154 = true := by decide +kernel
theorem okC154 : m_chkC me154 = true := by decide +kernel
theorem okH155 : m_chkH me155 = true := by decide +kernel
theorem okC155 : m_chkC me155 = true := by decide +kernel
theorem okH156 : m_chkH me156 = true := by decide +kernel
theorem okC156 : m_chkC me156 = true := by decide +kernel
theorem okH157 : m_chkH me157 = true := by decide +kernel
theorem okC157 : m_chkC me157 = true := by decide +kernel
theorem okH158 : m_chkH me158 = true := by decide +kernel
theorem okC158 : m_chkC me158 = true := by decide +kernel
theorem okH159 : m_chkH me159 = true := by decide +kernel
theorem okC159 : m_chkC me159 = true := by decide +kernel
theorem okH160 : m_chkH me160 = true := by decide +kernel
theorem okC160 : m_chkC me160 = true := by decide +kernel
theorem okH161 : m_chkH me161 = true := by decide +kernel
theorem okC161 : m_chkC me161 = true := by decide +kernel
theorem okH162 : m_chkH me162 = true := by decide +kernel
theorem okC162 : m_chkC me162 = true := by decide +kernel
theorem okH163 : m_chkH me163 = true := by decide +kernel
theorem okC163 : m_chkC me163 = true := by decide +kernel
theorem okH164 : m_chkH me164 = true := by decide +kernel
theorem okC164 : m_chkC me164 = true := by decide +kernel
theorem okH165 : m_chkH me165 = true := by decide +kernel
theorem okC165 : m_chkC me165 = true := by decide +kernel
theorem okH166 : m_chkH me166 = true := by decide +kernel
theorem okC166 : m_chkC me166 = true := by decide +kernel
theorem okH167 : m_chkH me167 = true := by decide +kernel
theorem okC167 : m_chkC me167 = true := by decide +kernel
theorem okH168 : m_chkH me168 = true := by decide +kernel
theorem okC168 : m_chkC me168 = true := by decide +kernel
theorem okH169 : m_chkH me169 = true := by decide +kernel
theorem okC169 : m_chkC me169 = true := by decide +kernel
theorem okH170 : m_chkH me170 = true := by decide +kernel
theorem okC170 : m_chkC me170 = true := by decide +kernel
theorem okH171 : m_chkH me171 = true := by decide +kernel
theorem okC171 : m_chkC me171 = true := by decide +kernel
theorem okH172 : m_chkH me172 = true := by decide +kernel
theorem okC172 : m_chkC me172 = true := by decide +kernel
theorem okH173 : m_chkH me173 = true := by decide +kernel
theorem okC173 : m_chkC me173 = true := by decide +kernel
theorem okH174 : m_chkH me174 = true := by decide +kernel
theorem okC174 : m_chkC me174 = true := by decide +kernel
theorem okH175 : m_chkH me175 = true := by decide +kernel
theorem okC175 : m_chkC me175 = true := by decide +kernel
theorem okH176 : m_chkH me176 = true := by decide +kernel
theorem okC176 : m_chkC me176 = true := by decide +kernel
theorem okH177 : m_chkH me177 = true := by decide +kernel
theorem okC177 : m_chkC me177 = true := by decide +kernel
theorem okH178 : m_chkH me178 = true := by decide +kernel
theorem okC178 : m_chkC me178 = true := by decide +kernel
theorem okH179 : m_chkH me179 = true := by decide +kernel
theorem okC179 : m_chkC me179 = true := by decide +kernel
end
section
theorem okH180 : m_chkH me180 = true := by decide +kernel
theorem okC180 : m_chkC me180 = true := by decide +kernel
theorem okH181 : m_chkH me181 = true := by decide +kernel
theorem okC181 : m_chkC me181 = true := by decide +kernel
theorem okH182 : m_chkH me182 = true := by decide +kernel
theorem okC182 : m_chkC me182 = true := by decide +kernel
theorem okH183 : m_chkH me183 = true := by decide +kernel
theorem okC183 : m_chkC me183 = true := by decide +kernel
theorem okH184 : m_chkH me184 = true := by decide +kernel
theorem okC184 : m_chkC me184 = true := by decide +kernel
theorem okH185 : m_chkH me185 = true := by decide +kernel
theorem okC185 : m_chkC me185 = true := by decide +kernel
theorem okH186 : m_chkH me186 = true := by decide +kernel
theorem okC186 : m_chkC me186 = true := by decide +kernel
theorem okH187 : m_chkH me187 = true := by decide +kernel
theorem okC187 : m_chkC me187 = true := by decide +kernel
theorem okH188 : m_chkH me188 = true := by decide +kernel
theorem okC188 : m_chkC me188 = true := by decide +kernel
theorem okH189 : m_chkH me189 = true := by decide +kernel
theorem okC189 : m_chkC me189 = true := by decide +kernel
theorem okH190 : m_chkH me190 = true := by decide +kernel
theorem okC190 : m_chkC me190 = true := by decide +kernel
theorem okH191 : m_chkH me191 = true := by decide +kernel
theorem okC191 : m_chkC me191 = true := by decide +kernel
theorem okH192 : m_chkH me192 = true := by decide +kernel
theorem okC192 : m_chkC me192 = true := by decide +kernel
theorem okH193 : m_chkH me193 = true := by decide +kernel
theorem okC193 : m_chkC me193 = true := by decide +kernel
theorem okH194 : m_chkH me194 = true := by decide +kernel
theorem okC194 : m_chkC me194 = true := by decide +kernel
theorem okH195 : m_chkH me195 = true := by decide +kernel
theorem okC195 : m_chkC me195 = true := by decide +kernel
theorem okH196 : m_chkH me196 = true := by decide +kernel
theorem okC196 : m_chkC me196 = true := by decide +kernel
theorem okH197 : m_chkH me197 = true := by decide +kernel
theorem okC197 : m_chkC me197 = true := by decide +kernel
theorem okH198 : m_chkH me198 = true := by decide +kernel
theorem okC198 : m_chkC me198 = true := by decide +kernel
theorem okH199 : m_chkH me199 = true := by decide +kernel
theorem okC199 : m_chkC me199 = true := by decide +kernel
theorem okH200 : m_chkH me200 = true := by decide +kernel
theorem okC200 : m_chkC me200 = true := by decide +kernel
theorem okH201 : m_chkH me201 = true := by decide +kernel
theorem okC201 : m_chkC me201 = true := by decide +kernel
theorem okH202 : m_chkH me202 = true := by decide +kernel
theorem okC202 : m_chkC me202 = true := by decide +kernel
theorem okH203 : m_chkH me203 = true := by decide +kernel
theorem okC203 : m_chkC me203 = true := by decide +kernel
theorem okH204 : m_chkH me204 = true := by decide +kernel
theorem okC204 : m_chkC me204 = true := by decide +kernel
theorem okH205 : m_chkH me205 = true := by decide +kernel
theorem okC205 : m_chkC me205 = true := by decide +kernel
theorem okH206 : m_chkH me206 = true := by decide +kernel
theorem okC206 : m_chkC me206 = true := by decide +kernel
theorem okH207 : m_chkH me207 = true := by decide +kernel
theorem okC207 : m_chkC me207 = true := by decide +kernel
theorem okH208 : m_chkH me208 = true := by decide +kernel
theorem okC208 : m_chkC me208 = true := by decide +kernel
theorem okH209 : m_chkH me209 = true := by decide +kernel
theorem okC209 : m_chkC me209 = true := by decide +kernel
theorem okH210 : m_chkH me210 = true := by decide +kernel
theorem okC210 : m_chkC me210 = true := by decide +kernel
theorem okH211 : m_chkH me211 = true := by decide +kernel
theorem okC211 : m_chkC me211 = true := by decide +kernel
theorem okH212 : m_chkH me212 = true := by decide +kernel
theorem okC212 : m_chkC me212 = true := by decide +kernel
theorem okH213 : m_chkH me213 = true := by decide +kernel
theorem okC213 : m_chkC me213 = true := by decide +kernel
theorem okH214 : m_chkH me214 = true := by decide +kernel
theorem okC214 : m_chkC me214 = true := by decide +kernel
theorem okH215 : m_chkH me215 = true := by decide +kernel
theorem okC215 : m_chkC me215 = true := by decide +kernel
theorem okH216 : m_chkH me216 = true := by decide +kernel
theorem okC216 : m_chkC me216 = true := by decide +kernel
theorem okH217 : m_chkH me217 = true := by decide +kernel
theorem okC217 : m_chkC me217 = true := by decide +kernel
theorem okH218 : m_chkH me218 = true := by decide +kernel
theorem okC218 : m_chkC me218 = true := by decide +kernel
theorem okH219 : m_chkH me219 = true := by decide +kernel
theorem okC219 : m_chkC me219 = true := by decide +kernel
theorem okH220 : m_chkH me220 = true := by decide +kernel
theorem okC220 : m_chkC me220 = true := by decide +kernel
theorem okH221 : m_chkH me221 = true := by decide +kernel
theorem okC221 : m_chkC me221 = true := by decide +kernel
theorem okH222 : m_chkH me222 = true := by decide +kernel
theorem okC222 : m_chkC me222 = true := by decide +kernel
theorem okH223 : m_chkH me223 = true := by decide +kernel
theorem okC223 : m_chkC me223 = true := by decide +kernel
theorem okH224 : m_chkH me224 = true := by decide +kernel
theorem okC224 : m_chkC me224 = true := by decide +kernel
theorem okH225 : m_chkH me225 = true := by decide +kernel
theorem okC225 : m_chkC me225 = true := by decide +kernel
theorem okH226 : m_chkH me226 = true := by decide +kernel
theorem okC226 : m_chkC me226 = true := by decide +kernel
theorem okH227 : m_chkH me227 = true := by decide +kernel
theorem okC227 : m_chkC me227 = true := by decide +kernel
theorem okH228 : m_chkH me228 = true := by decide +kernel
theorem okC228 : m_chkC me228 = true := by decide +kernel
theorem okH229 : m_chkH me229 = true := by decide +kernel
theorem okC229 : m_chkC me229 = true := by decide +kernel
theorem okH230 : m_chkH me230 = true := by decide +kernel
theorem okC230 : m_chkC me230 = true := by decide +kernel
theorem okH231 : m_chkH me231 = true := by decide +kernel
theorem okC231 : m_chkC me231 = true := by decide +kernel
theorem okH232 : m_chkH me232 = true := by decide +kernel
theorem okC232 : m_chkC me232 = true := by decide +kernel
theorem okH233 : m_chkH me233 = true := by decide +kernel
theorem okC233 : m_chkC me233 = true := by decide +kernel
theorem okH234 : m_chkH me234 = true := by decide +kernel
theorem okC234 : m_chkC me234 = true := by decide +kernel
theorem okH235 : m_chkH me235 = true := by decide +kernel
theorem okC235 : m_chkC me235 = true := by decide +kernel
theorem okH236 : m_chkH me236 = true := by decide +kernel
theorem okC236 : m_chkC me236 = true := by decide +kernel
theorem okH237 : m_chkH me237 = true := by decide +kernel
theorem okC237 : m_chkC me237 = true := by decide +kernel
theorem okH238 : m_chkH me238 = true := by decide +kernel
theorem okC238 : m_chkC me238 = true := by decide +kernel
theorem okH239 : m_chkH me239 = true := by decide +kernel
theorem okC239 : m_chkC me239 = true := by decide +kernel
end
section
theorem okH240 : m_chkH me240 = true := by decide +kernel
theorem okC240 : m_chkC me240 = true := by decide +kernel
theorem okH241 : m_chkH me241 = true := by decide +kernel
theorem okC241 : m_chkC me241 = true := by decide +kernel
theorem okH242 : m_chkH me242 = true := by decide +kernel
theorem okC242 : m_chkC me242 = true := by decide +kernel
theorem okH243 : m_chkH me243 = true := by decide +kernel
theorem okC243 : m_chkC me243 = true := by decide +kernel
theorem okH244 : m_chkH me244 = true := by decide +kernel
theorem okC244 : m_chkC me244 = true := by decide +kernel
theorem okH245 : m_chkH me245 = true := by decide +kernel
theorem okC245 : m_chkC me245 = true := by decide +kernel
theorem okH246 : m_chkH me246 = true := by decide +kernel
theorem okC246 : m_chkC me246 = true := by decide +kernel
theorem okH247 : m_chkH me247 = true := by decide +kernel
theorem okC247 : m_chkC me247 = true := by decide +kernel
theorem okH248 : m_chkH me248 = true := by decide +kernel
theorem okC248 : m_chkC me248 = true := by decide +kernel
theorem okH249 : m_chkH me249 = true := by decide +kernel
theorem okC249 : m_chkC me249 = true := by decide +kernel
theorem okH250 : m_chkH me250 = true := by decide +kernel
theorem okC250 : m_chkC me250 = true := by decide +kernel
theorem okH251 : m_chkH me251 = true := by decide +kernel
theorem okC251 : m_chkC me251 = true := by decide +kernel
theorem okH252 : m_chkH me252 = true := by decide +kernel
theorem okC252 : m_chkC me252 = true := by decide +kernel
theorem okH253 : m_chkH me253 = true := by decide +kernel
theorem okC253 : m_chkC me253 = true := by decide +kernel
theorem okH254 : m_chkH me254 = true := by decide +kernel
theorem okC254 : m_chkC me254 = true := by decide +kernel
theorem okH255 : m_chkH me255 = true := by decide +kernel
theorem okC255 : m_chkC me255 = true := by decide +kernel
theorem okH256 : m_chkH me256 = true := by decide +kernel
theorem okC256 : m_chkC me256 = true := by decide +kernel
theorem okH257 : m_chkH me257 = true := by decide +kernel
theorem okC257 : m_chkC me257 = true := by decide +kernel
theorem okH258 : m_chkH me258 = true := by decide +kernel
theorem okC258 : m_chkC me258 = true := by decide +kernel
theorem okH259 : m_chkH me259 = true := by decide +kernel
theorem okC259 : m_chkC me259 = true := by decide +kernel
theorem okH260 : m_chkH me260 = true := by decide +kernel
theorem okC260 : m_chkC me260 = true := by decide +kernel
theorem okH261 : m_chkH me261 = true := by decide +kernel
theorem okC261 : m_chkC me261 = true := by decide +kernel
theorem okH262 : m_chkH me262 = true := by decide +kernel
theorem okC262 : m_chkC me262 = true := by decide +kernel
theorem okH263 : m_chkH me263 = true := by decide +kernel
theorem okC263 : m_chkC me263 = true := by decide +kernel
theorem okH264 : m_chkH me264 = true := by decide +kernel
theorem okC264 : m_chkC me264 = true := by decide +kernel
theorem okH265 : m_chkH me265 = true := by decide +kernel
theorem okC265 : m_chkC me265 = true := by decide +kernel
theorem okH266 : m_chkH me266 = true := by decide +kernel
theorem okC266 : m_chkC me266 = true := by decide +kernel
theorem okH267 : m_chkH me267 = true := by decide +kernel
theorem okC267 : m_chkC me267 = true := by decide +kernel
theorem okH268 : m_chkH me268 = true := by decide +kernel
theorem okC268 : m_chkC me268 = true := by decide +kernel
theorem okH269 : m_chkH me269 = true := by decide +kernel
theorem okC269 : m_chkC me269 = true := by decide +kernel
theorem okH270 : m_chkH me270 = true := by decide +kernel
theorem okC270 : m_chkC me270 = true := by decide +kernel
theorem okH271 : m_chkH me271 = true := by decide +kernel
theorem okC271 : m_chkC me271 = true := by decide +kernel
theorem okH272 : m_chkH me272 = true := by decide +kernel
theorem okC272 : m_chkC me272 = true := by decide +kernel
theorem okH273 : m_chkH me273 = true := by decide +kernel
theorem okC273 : m_chkC me273 = true := by decide +kernel
theorem okH274 : m_chkH me274 = true := by decide +kernel
theorem okC274 : m_chkC me274 = true := by decide +kernel
theorem okH275 : m_chkH me275 = true := by decide +kernel
theorem okC275 : m_chkC me275 = true := by decide +kernel
theorem okH276 : m_chkH me276 = true := by decide +kernel
theorem okC276 : m_chkC me276 = true := by decide +kernel
theorem okH277 : m_chkH me277 = true := by decide +kernel
theorem okC277 : m_chkC me277 = true := by decide +kernel
theorem okH278 : m_chkH me278 = true := by decide +kernel
theorem okC278 : m_chkC me278 = true := by decide +kernel
theorem okH279 : m_chkH me279 = true := by decide +kernel
theorem okC279 : m_chkC me279 = true := by decide +kernel
theorem okH280 : m_chkH me280 = true := by decide +kernel
theorem okC280 : m_chkC me280 = true := by decide +kernel
theorem okH281 : m_chkH me281 = true := by decide +kernel
theorem okC281 : m_chkC me281 = true := by decide +kernel
theorem okH282 : m_chkH me282 = true := by decide +kernel
theorem okC282 : m_chkC me282 = true := by decide +kernel
theorem okH283 : m_chkH me283 = true := by decide +kernel
theorem okC283 : m_chkC me283 = true := by decide +kernel
theorem okH284 : m_chkH me284 = true := by decide +kernel
theorem okC284 : m_chkC me284 = true := by decide +kernel
theorem okH285 : m_chkH me285 = true := by decide +kernel
theorem okC285 : m_chkC me285 = true := by decide +kernel
theorem okH286 : m_chkH me286 = true := by decide +kernel
theorem okC286 : m_chkC me286 = true := by decide +kernel
theorem okH287 : m_chkH me287 = true := by decide +kernel
theorem okC287 : m_chkC me287 = true := by decide +kernel
theorem okH288 : m_chkH me288 = true := by decide +kernel
theorem okC288 : m_chkC me288 = true := by decide +kernel
theorem okH289 : m_chkH me289 = true := by decide +kernel
theorem okC289 : m_chkC me289 = true := by decide +kernel
theorem okH290 : m_chkH me290 = true := by decide +kernel
theorem okC290 : m_chkC me290 = true := by decide +kernel
theorem okH291 : m_chkH me291 = true := by decide +kernel
theorem okC291 : m_chkC me291 = true := by decide +kernel
theorem okH292 : m_chkH me292 = true := by decide +kernel
theorem okC292 : m_chkC me292 = true := by decide +kernel
theorem okH293 : m_chkH me293 = true := by decide +kernel
theorem okC293 : m_chkC me293 = true := by decide +kernel
theorem okH294 : m_chkH me294 = true := by decide +kernel
theorem okC294 : m_chkC me294 = true := by decide +kernel
theorem okH295 : m_chkH me295 = true := by decide +kernel
theorem okC295 : m_chkC me295 = true := by decide +kernel
theorem okH296 : m_chkH me296 = true := by decide +kernel
theorem okC296 : m_chkC me296 = true := by decide +kernel
theorem okH297 : m_chkH me297 = true := by decide +kernel
theorem okC297 : m_chkC me297 = true := by decide +kernel
theorem okH298 : m_chkH me298 = true := by decide +kernel
theorem okC298 : m_chkC me298 = true := by decide +kernel
theorem okH299 : m_chkH me299 = true := by decide +kernel
theorem okC299 : m_chkC me299 = true := by decide +kernel
end
section
theorem okH300 : m_chkH me300 = true := by decide +kernel
theorem okC300 : m_chkC me300 = true := by decide +kernel
theorem okH301 : m_chkH me301 = true := by decide +kernel
theorem okC301 : m_chkC me301 = true := by decide +kernel
theorem okH302 : m_chkH me302 = true := by decide +kernel
theorem okC302 : m_chkC me302 = true := by decide +kernel
theorem okH303 : m_chkH me303 = true := by decide +kernel
theorem okC303 : m_chkC me303 = true := by decide +kernel
theorem okH304 : m_chkH me304 = true := by decide +kernel
theorem okC304 : m_chkC me304 = true := by decide +kernel
theorem okH305 : m_chkH me305 = true := by decide +kernel
theorem okC305 : m_chkC me305 = true := by decide +kernel
theorem okH306 : m_chkH me306 = true := by decide +kernel
theorem okC306 : m_chkC me306 = true := by decide +kernel
theorem okH307 : m_chkH me307 = true := by decide +kernel
theorem okC307 : m_chkC me307 = true := by decide +kernel
theorem okH308 : m_chkH me308 = true := by decide +kernel
theorem okC308 : m_chkC me308 = true := by decide +kernel
theorem okH309 : m_chkH me309 = true := by decide +kernel
theorem okC309 : m_chkC me309 = true := by decide +kernel
theorem okH310 : m_chkH me310 = true := by decide +kernel
theorem okC310 : m_chkC me310 = true := by decide +kernel
theorem okH311 : m_chkH me311 = true := by decide +kernel
theorem okC311 : m_chkC me311 = true := by decide +kernel
theorem okH312 : m_chkH me312 = true := by decide +kernel
theorem okC312 : m_chkC me312 = true := by decide +kernel
theorem okH313 : m_chkH me313 = true := by decide +kernel
theorem okC313 : m_chkC me313 = true := by decide +kernel
theorem okH314 : m_chkH me314 = true := by decide +kernel
theorem okC314 : m_chkC me314 = true := by decide +kernel
theorem okH315 : m_chkH me315 = true := by decide +kernel
theorem okC315 : m_chkC me315 = true := by decide +kernel
theorem okH316 : m_chkH me316 = true := by decide +kernel
theorem okC316 : m_chkC me316 = true := by decide +kernel
theorem okH317 : m_chkH me317 = true := by decide +kernel
theorem okC317 : m_chkC me317 = true := by decide +kernel
theorem okH318 : m_chkH me318 = true := by decide +kernel
theorem okC318 : m_chkC me318 = true := by decide +kernel
theorem okH319 : m_chkH me319 = true := by decide +kernel
theorem okC319 : m_chkC me319 = true := by decide +kernel
theorem okH320 : m_chkH me320 = true := by decide +kernel
theorem okC320 : m_chkC me320 = true := by decide +kernel
theorem okH321 : m_chkH me321 = true := by decide +kernel
theorem okC321 : m_chkC me321 = true := by decide +kernel
theorem okH322 : m_chkH me322 = true := by decide +kernel
theorem okC322 : m_chkC me322 = true := by decide +kernel
theorem okH323 : m_chkH me323 = true := by decide +kernel
theorem okC323 : m_chkC me323 = true := by decide +kernel
theorem okH324 : m_chkH me324 = true := by decide +kernel
theorem okC324 : m_chkC me324 = true := by decide +kernel
theorem okH325 : m_chkH me325 = true := by decide +kernel
theorem okC325 : m_chkC me325 = true := by decide +kernel
theorem okH326 : m_chkH me326 = true := by decide +kernel
theorem okC326 : m_chkC me326 = true := by decide +kernel
theorem okH327 : m_chkH me327 = true := by decide +kernel
theorem okC327 : m_chkC me327 = true := by decide +kernel
end
section
theorem m_ac {p : mM → Bool} {a : mM} {r : List mM} (h1 : p a = true) (h2 : r.all p = true) : (a :: r).all p = true := by rw [List.all_cons, h1, h2]; rfl
theorem okCL0 : ((mcL.drop 0).take 16).all (fun q => decide (decode code q.1 = .ok (q.2.1, m_len q.2.1 q.2.2)) && m_okI x.cls x.name m_tab q.1 q.2.1 q.2.2) = true := by decide +kernel
theorem okCL1 : ((mcL.drop 16).take 16).all (fun q => decide (decode code q.1 = .ok (q.2.1, m_len q.2.1 q.2.2)) && m_okI x.cls x.name m_tab q.1 q.2.1 q.2.2) = true := by decide +kernel
theorem okCL2 : ((mcL.drop 32).take 16).all (fun q => decide (decode code q.1 = .ok (q.2.1, m_len q.2.1 q.2.2)) && m_okI x.cls x.name m_tab q.1 q.2.1 q.2.2) = true := by decide +kernel
theorem okCL3 : ((mcL.drop 48).take 16).all (fun q => decide (decode code q.1 = .ok (q.2.1, m_len q.2.1 q.2.2)) && m_okI x.cls x.name m_tab q.1 q.2.1 q.2.2) = true := by decide +kernel
theorem okCL4 : ((mcL.drop 64).take 16).all (fun q => decide (decode code q.1 = .ok (q.2.1, m_len q.2.1 q.2.2)) && m_okI x.cls x.name m_tab q.1 q.2.1 q.2.2) = true := by decide +kernel
theorem okCL5 : ((mcL.drop 80).take 16).all (fun q => decide (decode code q.1 = .ok (q.2.1, m_len q.2.1 q.2.2)) && m_okI x.cls x.name m_tab q.1 q.2.1 q.2.2) = true := by decide +kernel
theorem okCL6 : ((mcL.drop 96).take 16).all (fun q => decide (decode code q.1 = .ok (q.2.1, m_len q.2.1 q.2.2)) && m_okI x.cls x.name m_tab q.1 q.2.1 q.2.2) = true := by decide +kernel
theorem okCL7 : ((mcL.drop 112).take 16).all (fun q => decide (decode code q.1 = .ok (q.2.1, m_len q.2.1 q.2.2)) && m_okI x.cls x.name m_tab q.1 q.2.1 q.2.2) = true := by decide +kernel
theorem okCL8 : ((mcL.drop 128).take 16).all (fun q => decide (decode code q.1 = .ok (q.2.1, m_len q.2.1 q.2.2)) && m_okI x.cls x.name m_tab q.1 q.2.1 q.2.2) = true := by decide +kernel
theorem okCL9 : ((mcL.drop 144).take 16).all (fun q => decide (decode code q.1 = .ok (q.2.1, m_len q.2.1 q.2.2)) && m_okI x.cls x.name m_tab q.1 q.2.1 q.2.2) = true := by decide +kernel
theorem okCL10 : ((mcL.drop 160).take 16).all (fun q => decide (decode code q.1 = .ok (q.2.1, m_len q.2.1 q.2.2)) && m_okI x.cls x.name m_tab q.1 q.2.1 q.2.2) = true := by decide +kernel
theorem okCL11 : ((mcL.drop 176).take 16).all (fun q => decide (decode code q.1 = .ok (q.2.1, m_len q.2.1 q.2.2)) && m_okI x.cls x.name m_tab q.1 q.2.1 q.2.2) = true := by decide +kernel
theorem okCL12 : ((mcL.drop 192).take 16).all (fun q => decide (decode code q.1 = .ok (q.2.1, m_len q.2.1 q.2.2)) && m_okI x.cls x.name m_tab q.1 q.2.1 q.2.2) = true := by decide +kernel
theorem okCL13 : ((mcL.drop 208).take 16).all (fun q => decide (decode code q.1 = .ok (q.2.1, m_len q.2.1 q.2.2)) && m_okI x.cls x.name m_tab q.1 q.2.1 q.2.2) = true := by decide +kernel
theorem okCL14 : ((mcL.drop 224).take 16).all (fun q => decide (decode code q.1 = .ok (q.2.1, m_len q.2.1 q.2.2)) && m_okI x.cls x.name m_tab q.1 q.2.1 q.2.2) = true := by decide +kernel
theorem okCL15 : ((mcL.drop 240).take 16).all (fun q => decide (decode code q.1 = .ok (q.2.1, m_len q.2.1 q.2.2)) && m_okI x.cls x.name m_tab q.1 q.2.1 q.2.2) = true := by decide +kernel
theorem okCL16 : ((mcL.drop 256).take 16).all (fun q => decide (decode code q.1 = .ok (q.2.1, m_len q.2.1 q.2.2)) && m_okI x.cls x.name m_tab q.1 q.2.1 q.2.2) = true := by decide +kernel
theorem okCL17 : ((mcL.drop 272).take 16).all (fun q => decide (decode code q.1 = .ok (q.2.1, m_len q.2.1 q.2.2)) && m_okI x.cls x.name m_tab q.1 q.2.1 q.2.2) = true := by decide +kernel
theorem okCL18 : ((mcL.drop 288).take 16).all (fun q => decide (decode code q.1 = .ok (q.2.1, m_len q.2.1 q.2.2)) && m_okI x.cls x.name m_tab q.1 q.2.1 q.2.2) = true := by decide +kernel
theorem okCL19 : ((mcL.drop 304).take 16).all (fun q => decide (decode code q.1 = .ok (q.2.1, m_len q.2.1 q.2.2)) && m_okI x.cls x.name m_tab q.1 q.2.1 q.2.2) = true := by decide +kernel
theorem okCL20 : ((mcL.drop 320).take 16).all (fun q => decide (decode code q.1 = .ok (q.2.1, m_len q.2.1 q.2.2)) && m_okI x.cls x.name m_tab q.1 q.2.1 q.2.2) = true := by decide +kernel
theorem okCL21 : ((mcL.drop 336).take 16).all (fun q => decide (decode code q.1 = .ok (q.2.1, m_len q.2.1 q.2.2)) && m_okI x.cls x.name m_tab q.1 q.2.1 q.2.2) = true := by decide +kernel
theorem okCL22 : ((mcL.drop 352).take 16).all (fun q => decide (decode code q.1 = .ok (q.2.1, m_len q.2.1 q.2.2)) && m_okI x.cls x.name m_tab q.1 q.2.1 q.2.2) = true := by decide +kernel
theorem okCL23 : ((mcL.drop 368).take 16).all (fun q => decide (decode code q.1 = .ok (q.2.1, m_len q.2.1 q.2.2)) && m_okI x.cls x.name m_tab q.1 q.2.1 q.2.2) = true := by decide +kernel
theorem okCL24 : ((mcL.drop 384).take 16).all (fun q => decide (decode code q.1 = .ok (q.2.1, m_len q.2.1 q.2.2)) && m_okI x.cls x.name m_tab q.1 q.2.1 q.2.2) = true := by decide +kernel
theorem okCL25 : ((mcL.drop 400).take 16).all (fun q => decide (decode code q.1 = .ok (q.2.1, m_len q.2.1 q.2.2)) && m_okI x.cls x.name m_tab q.1 q.2.1 q.2.2) = true := by decide +kernel
theorem okCL26 : ((mcL.drop 416).take 16).all (fun q => decide (decode code q.1 = .ok (q.2.1, m_len q.2.1 q.2.2)) && m_okI x.cls x.name m_tab q.1 q.2.1 q.2.2) = true := by decide +kernel
theorem okCL27 : ((mcL.drop 432).take 16).all (fun q => decide (decode code q.1 = .ok (q.2.1, m_len q.2.1 q.2.2)) && m_okI x.cls x.name m_tab q.1 q.2.1 q.2.2) = true := by decide +kernel
theorem okCL28 : ((mcL.drop 448).take 16).all (fun q => decide (decode code q.1 = .ok (q.2.1, m_len q.2.1 q.2.2)) && m_okI x.cls x.name m_tab q.1 q.2.1 q.2.2) = true := by decide +kernel
theorem okCL29 : ((mcL.drop 464).take 16).all (fun q => decide (decode code q.1 = .ok (q.2.1, m_len q.2.1 q.2.2)) && m_okI x.cls x.name m_tab q.1 q.2.1 q.2.2) = true := by decide +kernel
theorem okCL30 : ((mcL.drop 480).take 16).all (fun q => decide (decode code q.1 = .ok (q.2.1, m_len q.2.1 q.2.2)) && m_okI x.cls x.name m_tab q.1 q.2.1 q.2.2) = true := by decide +kernel
theorem okCL31 : ((mcL.drop 496).take 16).all (fun q => decide (decode code q.1 = .ok (q.2.1, m_len q.2.1 q.2.2)) && m_okI x.cls x.name m_tab q.1 q.2.1 q.2.2) = true := by decide +kernel
theorem okCL32 : ((mcL.drop 512).take 16).all (fun q => decide (decode code q.1 = .ok (q.2.1, m_len q.2.1 q.2.2)) && m_okI x.cls x.name m_tab q.1 q.2.1 q.2.2) = true := by decide +kernel
theorem okCL33 : ((mcL.drop 528).take 16).all (fun q => decide (decode code q.1 = .ok (q.2.1, m_len q.2.1 q.2.2)) && m_okI x.cls x.name m_tab q.1 q.2.1 q.2.2) = true := by decide +kernel
theorem okCL34 : ((mcL.drop 544).take 16).all (fun q => decide (decode code q.1 = .ok (q.2.1, m_len q.2.1 q.2.2)) && m_okI x.cls x.name m_tab q.1 q.2.1 q.2.2) = true := by decide +kernel
theorem okCL35 : ((mcL.drop 560).take 16).all (fun q => decide (decode code q.1 = .ok (q.2.1, m_len q.2.1 q.2.2)) && m_okI x.cls x.name m_tab q.1 q.2.1 q.2.2) = true := by decide +kernel
theorem okCL36 : ((mcL.drop 576).take 16).all (fun q => decide (decode code q.1 = .ok (q.2.1, m_len q.2.1 q.2.2)) && m_okI x.cls x.name m_tab q.1 q.2.1 q.2.2) = true := by decide +kernel
theorem okCL37 : ((mcL.drop 592).take 16).all (fun q => decide (decode code q.1 = .ok (q.2.1, m_len q.2.1 q.2.2)) && m_okI x.cls x.name m_tab q.1 q.2.1 q.2.2) = true := by decide +kernel
theorem okCL38 : ((mcL.drop 608).take 16).all (fun q => decide (decode code q.1 = .ok (q.2.1, m_len q.2.1 q.2.2)) && m_okI x.cls x.name m_tab q.1 q.2.1 q.2.2) = true := by decide +kernel
theorem okCL39 : ((mcL.drop 624).take 16).all (fun q => decide (decode code q.1 = .ok (q.2.1, m_len q.2.1 q.2.2)) && m_okI x.cls x.name m_tab q.1 q.2.1 q.2.2) = true := by decide +kernel
theorem okCL40 : ((mcL.drop 640).take 16).all (fun q => decide (decode code q.1 = .ok (q.2.1, m_len q.2.1 q.2.2)) && m_okI x.cls x.name m_tab q.1 q.2.1 q.2.2) = true := by decide +kernel
theorem okCL41 : ((mcL.drop 656).take 16).all (fun q => decide (decode code q.1 = .ok (q.2.1, m_len q.2.1 q.2.2)) && m_okI x.cls x.name m_tab q.1 q.2.1 q.2.2) = true := by decide +kernel
theorem okCL42 : ((mcL.drop 672).take 16).all (fun q => decide (decode code q.1 = .ok (q.2.1, m_len q.2.1 q.2.2)) && m_okI x.cls x.name m_tab q.1 q.2.1 q.2.2) = true := by decide +kernel
theorem okCL43 : ((mcL.drop 688).take 16).all (fun q => decide (decode code q.1 = .ok (q.2.1, m_len q.2.1 q.2.2)) && m_okI x.cls x.name m_tab q.1 q.2.1 q.2.2) = true := by decide +kernel
theorem okCL44 : ((mcL.drop 704).take 16).all (fun q => decide (decode code q.1 = .ok (q.2.1, m_len q.2.1 q.2.2)) && m_okI x.cls x.name m_tab q.1 q.2.1 q.2.2) = true := by decide +kernel
theorem okCL45 : ((mcL.drop 720).take 16).all (fun q => decide (decode code q.1 = .ok (q.2.1, m_len q.2.1 q.2.2)) && m_okI x.cls x.name m_tab q.1 q.2.1 q.2.2) = true := by decide +kernel
theorem okCL46 : ((mcL.drop 736).take 16).all (fun q => decide (decode code q.1 = .ok (q.2.1, m_len q.2.1 q.2.2)) && m_okI x.cls x.name m_tab q.1 q.2.1 q.2.2) = true := by decide +kernel
theorem okCL47 : ((mcL.drop 752).take 16).all (fun q => decide (decode code q.1 = .ok (q.2.1, m_len q.2.1 q.2.2)) && m_okI x.cls x.name m_tab q.1 q.2.1 q.2.2) = true := by decide +kernel
theorem okCL48 : ((mcL.drop 768).take 16).all (fun q => decide (decode code q.1 = .ok (q.2.1, m_len q.2.1 q.2.2)) && m_okI x.cls x.name m_tab q.1 q.2.1 q.2.2) = true := by decide +kernel
theorem okCL49 : ((mcL.drop 784).take 16).all (fun q => decide (decode code q.1 = .ok (q.2.1, m_len q.2.1 q.2.2)) && m_okI x.cls x.name m_tab q.1 q.2.1 q.2.2) = true := by decide +kernel
theorem okCL50 : ((mcL.drop 800).take 16).all (fun q => decide (decode code q.1 = .ok (q.2.1, m_len q.2.1 q.2.2)) && m_okI x.cls x.name m_tab q.1 q.2.1 q.2.2) = true := by decide +kernel
theorem okCL51 : ((mcL.drop 816).take 16).all (fun q => decide (decode code q.1 = .ok (q.2.1, m_len q.2.1 q.2.2)) && m_okI x.cls x.name m_tab q.1 q.2.1 q.2.2) = true := by decide +kernel
theorem okCL52 : ((mcL.drop 832).take 16).all (fun q => decide (decode code q.1 = .ok (q.2.1, m_len q.2.1 q.2.2)) && m_okI x.cls x.name m_tab q.1 q.2.1 q.2.2) = true := by decide +kernel
theorem okCL53 : ((mcL.drop 848).take 16).all (fun q => decide (decode code q.1 = .ok (q.2.1, m_len q.2.1 q.2.2)) && m_okI x.cls x.name m_tab q.1 q.2.1 q.2.2) = true := by decide +kernel
theorem okCL54 : ((mcL.drop 864).take 16).all (fun q => decide (decode code q.1 = .ok (q.2.1, m_len q.2.1 q.2.2)) && m_okI x.cls x.name m_tab q.1 q.2.1 q.2.2) = true := by decide +kernel
theorem okCL55 : ((mcL.drop 880).take 16).all (fun q => decide (decode code q.1 = .ok (q.2.1, m_len q.2.1 q.2.2)) && m_okI x.cls x.name m_tab q.1 q.2.1 q.2.2) = true := by decide +kernel
theorem okCL56 : ((mcL.drop 896).take 16).all (fun q => decide (decode code q.1 = .ok (q.2.1, m_len q.2.1 q.2.2)) && m_okI x.cls x.name m_tab q.1 q.2.1 q.2.2) = true := by decide +kernel
theorem okCL57 : ((mcL.drop 912).take 16).all (fun q => decide (decode code q.1 = .ok (q.2.1, m_len q.2.1 q.2.2)) && m_okI x.cls x.name m_tab q.1 q.2.1 q.2.2) = true := by decide +kernel
theorem okCL58 : ((mcL.drop 928).take 16).all (fun q => decide (decode code q.1 = .ok (q.2.1, m_len q.2.1 q.2.2)) && m_okI x.cls x.name m_tab q.1 q.2.1 q.2.2) = true := by decide +kernel
theorem okCL59 : ((mcL.drop 944).take 16).all (fun q => decide (decode code q.1 = .ok (q.2.1, m_len q.2.1 q.2.2)) && m_okI x.cls x.name m_tab q.1 q.2.1 q.2.2) = true := by decide +kernel
theorem okCL60 : ((mcL.drop 960).take 16).all (fun q => decide (decode code q.1 = .ok (q.2.1, m_len q.2.1 q.2.2)) && m_okI x.cls x.name m_tab q.1 q.2.1 q.2.2) = true := by decide +kernel
theorem okCL61 : ((mcL.drop 976).take 16).all (fun q => decide (decode code q.1 = .ok (q.2.1, m_len q.2.1 q.2.2)) && m_okI x.cls x.name m_tab q.1 q.2.1 q.2.2) = true := by decide +kernel
theorem okCL62 : ((mcL.drop 992).take 16).all (fun q => decide (decode code q.1 = .ok (q.2.1, m_len q.2.1 q.2.2)) && m_okI x.cls x.name m_tab q.1 q.2.1 q.2.2) = true := by decide +kernel
theorem okCL63 : ((mcL.drop 1008).take 16).all (fun q => decide (decode code q.1 = .ok (q.2.1, m_len q.2.1 q.2.2)) && m_okI x.cls x.name m_tab q.1 q.2.1 q.2.2) = true := by decide +kernel
theorem okCL64 : ((mcL.drop 1024).take 16).all (fun q => decide (decode code q.1 = .ok (q.2.1, m_len q.2.1 q.2.2)) && m_okI x.cls x.name m_tab q.1 q.2.1 q.2.2) = true := by decide +kernel
theorem okCL65 : ((mcL.drop 1040).take 16).all (fun q => decide (decode code q.1 = .ok (q.2.1, m_len q.2.1 q.2.2)) && m_okI x.cls x.name m_tab q.1 q.2.1 q.2.2) = true := by decide +kernel
theorem okCL66 : ((mcL.drop 1056).take 16).all (fun q => decide (decode code q.1 = .ok (q.2.1, m_len q.2.1 q.2.2)) && m_okI x.cls x.name m_tab q.1 q.2.1 q.2.2) = true := by decide +kernel
theorem okCL67 : ((mcL.drop 1072).take 16).all (fun q => decide (decode code q.1 = .ok (q.2.1, m_len q.2.1 q.2.2)) && m_okI x.cls x.name m_tab q.1 q.2.1 q.2.2) = true := by decide +kernel
theorem okCL68 : ((mcL.drop 1088).take 16).all (fun q => decide (decode code q.1 = .ok (q.2.1, m_len q.2.1 q.2.2)) && m_okI x.cls x.name m_tab q.1 q.2.1 q.2.2) = true := by decide +kernel
theorem m_alls {α : Type} {p : α → Bool} {l : List α} {b : Nat} : ∀ (k n : Nat), ((l.drop n).take b).all p = true → (l.drop (n + b)).all p = true → (l.drop n).all p = true := by
  intro k n h1 h2
  rw [← List.take_append_drop b (l.drop n), List.all_append, h1, List.drop_drop, h2]
  rfl
set_option maxRecDepth 100000 in
theorem okCL : m_chkC meL = true := (show (mcL.drop 0).all (fun q => decide (decode code q.1 = .ok (q.2.1, m_len q.2.1 q.2.2)) && m_okI x.cls x.name m_tab q.1 q.2.1 q.2.2) = true from (m_alls 0 0 okCL0 (m_alls 0 16 okCL1 (m_alls 0 32 okCL2 (m_alls 0 48 okCL3 (m_alls 0 64 okCL4 (m_alls 0 80 okCL5 (m_alls 0 96 okCL6 (m_alls 0 112 okCL7 (m_alls 0 128 okCL8 (m_alls 0 144 okCL9 (m_alls 0 160 okCL10 (m_alls 0 176 okCL11 (m_alls 0 192 okCL12 (m_alls 0 208 okCL13 (m_alls 0 224 okCL14 (m_alls 0 240 okCL15 (m_alls 0 256 okCL16 (m_alls 0 272 okCL17 (m_alls 0 288 okCL18 (m_alls 0 304 okCL19 (m_alls 0 320 okCL20 (m_alls 0 336 okCL21 (m_alls 0 352 okCL22 (m_alls 0 368 okCL23 (m_alls 0 384 okCL24 (m_alls 0 400 okCL25 (m_alls 0 416 okCL26 (m_alls 0 432 okCL27 (m_alls 0 448 okCL28 (m_alls 0 464 okCL29 (m_alls 0 480 okCL30 (m_alls 0 496 okCL31 (m_alls 0 512 okCL32 (m_alls 0 528 okCL33 (m_alls 0 544 okCL34 (m_alls 0 560 okCL35 (m_alls 0 576 okCL36 (m_alls 0 592 okCL37 (m_alls 0 608 okCL38 (m_alls 0 624 okCL39 (m_alls 0 640 okCL40 (m_alls 0 656 okCL41 (m_alls 0 672 okCL42 (m_alls 0 688 okCL43 (m_alls 0 704 okCL44 (m_alls 0 720 okCL45 (m_alls 0 736 okCL46 (m_alls 0 752 okCL47 (m_alls 0 768 okCL48 (m_alls 0 784 okCL49 (m_alls 0 800 okCL50 (m_alls 0 816 okCL51 (m_alls 0 832 okCL52 (m_alls 0 848 okCL53 (m_alls 0 864 okCL54 (m_alls 0 880 okCL55 (m_alls 0 896 okCL56 (m_alls 0 912 okCL57 (m_alls 0 928 okCL58 (m_alls 0 944 okCL59 (m_alls 0 960 okCL60 (m_alls 0 976 okCL61 (m_alls 0 992 okCL62 (m_alls 0 1008 okCL63 (m_alls 0 1024 okCL64 (m_alls 0 1040 okCL65 (m_alls 0 1056 okCL66 (m_alls 0 1072 okCL67 (m_alls 0 1088 okCL68 rfl))))))))))))))))))))))))))))))))))))))))))))))))))))))))))))))))))))))
set_option maxRecDepth 100000 in
theorem m_tabC : m_tab.all m_chkC = true := by
  unfold m_tab
  exact m_ac okC0 (m_ac okC1 (m_ac okC2 (m_ac okC3 (m_ac okC4 (m_ac okC5 (m_ac okC6 (m_ac okC7 (m_ac okC8 (m_ac okC9 (m_ac okC10 (m_ac okC11 (m_ac okC12 (m_ac okC13 (m_ac okC14 (m_ac okC15 (m_ac okC16 (m_ac okC17 (m_ac okC18 (m_ac okC19 (m_ac okC20 (m_ac okC21 (m_ac okC22 (m_ac okC23 (m_ac okC24 (m_ac okC25 (m_ac okC26 (m_ac okC27 (m_ac okC28 (m_ac okC29 (m_ac okC30 (m_ac okC31 (m_ac okC32 (m_ac okC33 (m_ac okC34 (m_ac okC35 (m_ac okC36 (m_ac okC37 (m_ac okC38 (m_ac okC39 (m_ac okC40 (m_ac okC41 (m_ac okC42 (m_ac okC43 (m_ac okC44 (m_ac okC45 (m_ac okC46 (m_ac okC47 (m_ac okC48 (m_ac okC49 (m_ac okC50 (m_ac okC51 (m_ac okC52 (m_ac okC53 (m_ac okC54 (m_ac okC55 (m_ac okC56 (m_ac okC57 (m_ac okC58 (m_ac okC59 (m_ac okC60 (m_ac okC61 (m_ac okC62 (m_ac okC63 (m_ac okC64 (m_ac okC65 (m_ac okC66 (m_ac okC67 (m_ac okC68 (m_ac okC69 (m_ac okC70 (m_ac okC71 (m_ac okC72 (m_ac okC73 (m_ac okC74 (m_ac okC75 (m_ac okC76 (m_ac okC77 (m_ac okC78 (m_ac okC79 (m_ac okC80 (m_ac okC81 (m_ac okC82 (m_ac okC83 (m_ac okC84 (m_ac okC85 (m_ac okC86 (m_ac okC87 (m_ac okC88 (m_ac okC89 (m_ac okC90 (m_ac okC91 (m_ac okC92 (m_ac okC93 (m_ac okC94 (m_ac okC95 (m_ac okC96 (m_ac okC97 (m_ac okC98 (m_ac okC99 (m_ac okC100 (m_ac okC101 (m_ac okC102 (m_ac okC103 (m_ac okC104 (m_ac okC105 (m_ac okC106 (m_ac okC107 (m_ac okC108 (m_ac okC109 (m_ac okC110 (m_ac okC111 (m_ac okC112 (m_ac okC113 (m_ac okC114 (m_ac okC115 (m_ac okC116 (m_ac okC117 (m_ac okC118 (m_ac okC119 (m_ac okC120 (m_ac okC121 (m_ac okC122 (m_ac okC123 (m_ac okC124 (m_ac okC125 (m_ac okC126 (m_ac okC127 (m_ac okC128 (m_ac okC129 (m_ac okC130 (m_ac okC131 (m_ac okC132 (m_ac okC133 (m_ac okC134 (m_ac okC135 (m_ac okC136 (m_ac okC137 (m_ac okC138 (m_ac okC139 (m_ac okC140 (m_ac okC141 (m_ac okC142 (m_ac okC143 (m_ac okC144 (m_ac okC145 (m_ac okC146 (m_ac okC147 (m_ac okC148 (m_ac okC149 (m_ac okC150 (m_ac okC151 (m_ac okC152 (m_ac okC153 (m_ac okC154 (m_ac okC155 (m_ac okC156 (m_ac okC157 (m_ac okC158 (m_ac okC159 (m_ac okC160 (m_ac okC161 (m_ac okC162 (m_ac okC163 (m_ac okC164 (m_ac okC165 (m_ac okC166 (m_ac okC167 (m_ac okC168 (m_ac okC169 (m_ac okC170 (m_ac okC171 (m_ac okC172 (m_ac okC173 (m_ac okC174 (m_ac okC175 (m_ac okC176 (m_ac okC177 (m_ac okC178 (m_ac okC179 (m_ac okC180 (m_ac okC181 (m_ac okC182 (m_ac okC183 (m_ac okC184 (m_ac okC185 (m_ac okC186 (m_ac okC187 (m_ac okC188 (m_ac okC189 (m_ac okC190 (m_ac okC191 (m_ac okC192 (m_ac okC193 (m_ac okC194 (m_ac okC195 (m_ac okC196 (m_ac okC197 (m_ac okC198 (m_ac okC199 (m_ac okC200 (m_ac okC201 (m_ac okC202 (m_ac okC203 (m_ac okC204 (m_ac okC205 (m_ac okC206 (m_ac okC207 (m_ac okC208 (m_ac okC209 (m_ac okC210 (m_ac okC211 (m_ac okC212 (m_ac okC213 (m_ac okC214 (m_ac okC215 (m_ac okC216 (m_ac okC217 (m_ac okC218 (m_ac okC219 (m_ac okC220 (m_ac okC221 (m_ac okC222 (m_ac okC223 (m_ac okC224 (m_ac okC225 (m_ac okC226 (m_ac okC227 (m_ac okC228 (m_ac okC229 (m_ac okC230 (m_ac okC231 (m_ac okC232 (m_ac okC233 (m_ac okC234 (m_ac okC235 (m_ac okC236 (m_ac okC237 (m_ac okC238 (m_ac okC239 (m_ac okC240 (m_ac okC241 (m_ac okC242 (m_ac okC243 (m_ac okC244 (m_ac okC245 (m_ac okC246 (m_ac okC247 (m_ac okC248 (m_ac okC249 (m_ac okC250 (m_ac okC251 (m_ac okC252 (m_ac okC253 (m_ac okC254 (m_ac okC255 (m_ac okC256 (m_ac okC257 (m_ac okC258 (m_ac okC259 (m_ac okC260 (m_ac okC261 (m_ac okC262 (m_ac okC263 (m_ac okC264 (m_ac okC265 (m_ac okC266 (m_ac okC267 (m_ac okC268 (m_ac okC269 (m_ac okC270 (m_ac okC271 (m_ac okC272 (m_ac okC273 (m_ac okC274 (m_ac okC275 (m_ac okC276 (m_ac okC277 (m_ac okC278 (m_ac okC279 (m_ac okC280 (m_ac okC281 (m_ac okC282 (m_ac okC283 (m_ac okC284 (m_ac okC285 (m_ac okC286 (m_ac okC287 (m_ac okC288 (m_ac okC289 (m_ac okC290 (m_ac okC291 (m_ac okC292 (m_ac okC293 (m_ac okC294 (m_ac okC295 (m_ac okC296 (m_ac okC297 (m_ac okC298 (m_ac okC299 (m_ac okC300 (m_ac okC301 (m_ac okC302 (m_ac okC303 (m_ac okC304 (m_ac okC305 (m_ac okC306 (m_ac okC307 (m_ac okC308 (m_ac okC309 (m_ac okC310 (m_ac okC311 (m_ac okC312 (m_ac okC313 (m_ac okC314 (m_ac okC315 (m_ac okC316 (m_ac okC317 (m_ac okC318 (m_ac okC319 (m_ac okC320 (m_ac okC321 (m_ac okC322 (m_ac okC323 (m_ac okC324 (m_ac okC325 (m_ac okC326 (m_ac okC327 (rfl))))))))))))))))))))))))))))))))))))))))))))))))))))))))))))))))))))))))))))))))))))))))))))))))))))))))))))))))))))))))))))))))))))))))))))))))))))))))))))))))))))))))))))))))))))))))))))))))))))))))))))))))))))))))))))))))))))))))))))))))))))))))))))))))))))))))))))))))))))))))))))))))))))))))))))))))))))))))))))))))))))))))
set_option maxRecDepth 100000 in
theorem m_tabH : m_tab.all m_chkH = true := by
  unfold m_tab
  exact m_ac okH0 (m_ac okH1 (m_ac okH2 (m_ac okH3 (m_ac okH4 (m_ac okH5 (m_ac okH6 (m_ac okH7 (m_ac okH8 (m_ac okH9 (m_ac okH10 (m_ac okH11 (m_ac okH12 (m_ac okH13 (m_ac okH14 (m_ac okH15 (m_ac okH16 (m_ac okH17 (m_ac okH18 (m_ac okH19 (m_ac okH20 (m_ac okH21 (m_ac okH22 (m_ac okH23 (m_ac okH24 (m_ac okH25 (m_ac okH26 (m_ac okH27 (m_ac okH28 (m_ac okH29 (m_ac okH30 (m_ac okH31 (m_ac okH32 (m_ac okH33 (m_ac okH34 (m_ac okH35 (m_ac okH36 (m_ac okH37 (m_ac okH38 (m_ac okH39 (m_ac okH40 (m_ac okH41 (m_ac okH42 (m_ac okH43 (m_ac okH44 (m_ac okH45 (m_ac okH46 (m_ac okH47 (m_ac okH48 (m_ac okH49 (m_ac okH50 (m_ac okH51 (m_ac okH52 (m_ac okH53 (m_ac okH54 (m_ac okH55 (m_ac okH56 (m_ac okH57 (m_ac okH58 (m_ac okH59 (m_ac okH60 (m_ac okH61 (m_ac okH62 (m_ac okH63 (m_ac okH64 (m_ac okH65 (m_ac okH66 (m_ac okH67 (m_ac okH68 (m_ac okH69 (m_ac okH70 (m_ac okH71 (m_ac okH72 (m_ac okH73 (m_ac okH74 (m_ac okH75 (m_ac okH76 (m_ac okH77 (m_ac okH78 (m_ac okH79 (m_ac okH80 (m_ac okH81 (m_ac okH82 (m_ac okH83 (m_ac okH84 (m_ac okH85 (m_ac okH86 (m_ac okH87 (m_ac okH88 (m_ac okH89 (m_ac okH90 (m_ac okH91 (m_ac okH92 (m_ac okH93 (m_ac okH94 (m_ac okH95 (m_ac okH96 (m_ac okH97 (m_ac okH98 (m_ac okH99 (m_ac okH100 (m_ac okH101 (m_ac okH102 (m_ac okH103 (m_ac okH104 (m_ac okH105 (m_ac okH106 (m_ac okH107 (m_ac okH108 (m_ac okH109 (m_ac okH110 (m_ac okH111 (m_ac okH112 (m_ac okH113 (m_ac okH114 (m_ac okH115 (m_ac okH116 (m_ac okH117 (m_ac okH118 (m_ac okH119 (m_ac okH120 (m_ac okH121 (m_ac okH122 (m_ac okH123 (m_ac okH124 (m_ac okH125 (m_ac okH126 (m_ac okH127 (m_ac okH128 (m_ac okH129 (m_ac okH130 (m_ac okH131 (m_ac okH132 (m_ac okH133 (m_ac okH134 (m_ac okH135 (m_ac okH136 (m_ac okH137 (m_ac okH138 (m_ac okH139 (m_ac okH140 (m_ac okH141 (m_ac okH142 (m_ac okH143 (m_ac okH144 (m_ac okH145 (m_ac okH146 (m_ac okH147 (m_ac okH148 (m_ac okH149 (m_ac okH150 (m_ac okH151 (m_ac okH152 (m_ac okH153 (m_ac okH154 (m_ac okH155 (m_ac okH156 (m_ac okH157 (m_ac okH158 (m_ac okH159 (m_ac okH160 (m_ac okH161 (m_ac okH162 (m_ac okH163 (m_ac okH164 (m_ac okH165 (m_ac okH166 (m_ac okH167 (m_ac okH168 (m_ac okH169 (m_ac okH170 (m_ac okH171 (m_ac okH172 (m_ac okH173 (m_ac okH174 (m_ac okH175 (m_ac okH176 (m_ac okH177 (m_ac okH178 (m_ac okH179 (m_ac okH180 (m_ac okH181 (m_ac okH182 (m_ac okH183 (m_ac okH184 (m_ac okH185 (m_ac okH186 (m_ac okH187 (m_ac okH188 (m_ac okH189 (m_ac okH190 (m_ac okH191 (m_ac okH192 (m_ac okH193 (m_ac okH194 (m_ac okH195 (m_ac okH196 (m_ac okH197 (m_ac okH198 (m_ac okH199 (m_ac okH200 (m_ac okH201 (m_ac okH202 (m_ac okH203 (m_ac okH204 (m_ac okH205 (m_ac okH206 (m_ac okH207 (m_ac okH208 (m_ac okH209 (m_ac okH210 (m_ac okH211 (m_ac okH212 (m_ac okH213 (m_ac okH214 (m_ac okH215 (m_ac okH216 (m_ac okH217 (m_ac okH218 (m_ac okH219 (m_ac okH220 (m_ac okH221 (m_ac okH222 (m_ac okH223 (m_ac okH224 (m_ac okH225 (m_ac okH226 (m_ac okH227 (m_ac okH228 (m_ac okH229 (m_ac okH230 (m_ac okH231 (m_ac okH232 (m_ac okH233 (m_ac okH234 (m_ac okH235 (m_ac okH236 (m_ac okH237 (m_ac okH238 (m_ac okH239 (m_ac okH240 (m_ac okH241 (m_ac okH242 (m_ac okH243 (m_ac okH244 (m_ac okH245 (m_ac okH246 (m_ac okH247 (m_ac okH248 (m_ac okH249 (m_ac okH250 (m_ac okH251 (m_ac okH252 (m_ac okH253 (m_ac okH254 (m_ac okH255 (m_ac okH256 (m_ac okH257 (m_ac okH258 (m_ac okH259 (m_ac okH260 (m_ac okH261 (m_ac okH262 (m_ac okH263 (m_ac okH264 (m_ac okH265 (m_ac okH266 (m_ac okH267 (m_ac okH268 (m_ac okH269 (m_ac okH270 (m_ac okH271 (m_ac okH272 (m_ac okH273 (m_ac okH274 (m_ac okH275 (m_ac okH276 (m_ac okH277 (m_ac okH278 (m_ac okH279 (m_ac okH280 (m_ac okH281 (m_ac okH282 (m_ac okH283 (m_ac okH284 (m_ac okH285 (m_ac okH286 (m_ac okH287 (m_ac okH288 (m_ac okH289 (m_ac okH290 (m_ac okH291 (m_ac okH292 (m_ac okH293 (m_ac okH294 (m_ac okH295 (m_ac okH296 (m_ac okH297 (m_ac okH298 (m_ac okH299 (m_ac okH300 (m_ac okH301 (m_ac okH302 (m_ac okH303 (m_ac okH304 (m_ac okH305 (m_ac okH306 (m_ac okH307 (m_ac okH308 (m_ac okH309 (m_ac okH310 (m_ac okH311 (m_ac okH312 (m_ac okH313 (m_ac okH314 (m_ac okH315 (m_ac okH316 (m_ac okH317 (m_ac okH318 (m_ac okH319 (m_ac okH320 (m_ac okH321 (m_ac okH322 (m_ac okH323 (m_ac okH324 (m_ac okH325 (m_ac okH326 (m_ac okH327 (rfl))))))))))))))))))))))))))))))))))))))))))))))))))))))))))))))))))))))))))))))))))))))))))))))))))))))))))))))))))))))))))))))))))))))))))))))))))))))))))))))))))))))))))))))))))))))))))))))))))))))))))))))))))))))))))))))))))))))))))))))))))))))))))))))))))))))))))))))))))))))))))))))))))))))))))))))))))))))))))))))))))))))))
theorem m_tab_ok : m_okT m_tab := fun y hy => ⟨m_chkH_ok (List.all_eq_true.mp m_tabH y hy), m_chkC_ok (List.all_eq_true.mp m_tabC y hy)⟩
theorem m_law_ok : m_okC m_tab meL := m_chkC_ok okCL
end
section
/-! THE SMALL MACHINE'S HEAP AND THE REAL ONE -/
/-- where a cell's number lies: the world's cells one behind the other from base on; the script; the static row; the Strings, their bytes -/
def m_ad (base b tU : Nat) (adK adV : Nat → Nat) (j : Nat) : Nat := if j < 1000000 then base + j else if j = 1000000 then b else if j = 1000001 then tU else if j < 1000200 then adK (j - 1000100) else adV (j - 1000200)
def m_v (ad : Nat → Nat) (vF : Value) : Value → Value
  | .ref j => .ref (ad j)
  | .retAddr _ => vF
  | v => v
def m_fv (ad : Nat → Nat) (di : Nat → Int32) (li : Nat → Int64) (k : Nat) : Value → Value
  | .int _ => .int (di k)
  | .long _ => .long (li k)
  | .ref j => .ref (ad j)
  | w => w
def m_fs (ad : Nat → Nat) (di : Nat → Int32) (li : Nat → Int64) : Nat → List Value → List Value
  | _, [] => []
  | k, v :: r => m_fv ad di li k v :: m_fs ad di li (k + 1) r
theorem m_fs_get (ad : Nat → Nat) (di : Nat → Int32) (li : Nat → Int64) : ∀ (fs : List Value) (k j : Nat), (m_fs ad di li k fs)[j]? = (fs[j]?).map (m_fv ad di li (k + j)) := by
  intro fs
  induction fs with
  | nil => intro k j; simp [m_fs]
  | cons v r ih =>
    intro k j
    cases j with
    | zero => simp [m_fs]
    | succ j => simp only [m_fs, List.getElem?_cons_succ]; rw [ih, show k + 1 + j = k + (j + 1) by omega]
theorem m_fs_len (ad : Nat → Nat) (di : Nat → Int32) (li : Nat → Int64) : ∀ (fs : List Value) (k : Nat), (m_fs ad di li k fs).length = fs.length := by
  intro fs
  induction fs with
  | nil => intro k; simp [m_fs]
  | cons v r ih => intro k; simp [m_fs, ih]
def m_cell (dA : Nat → Nat) (ad : Nat → Nat) (D : Nat → Nat → Int32) (L : Nat → Nat → Int64) (i : Nat) : mS → va_E
  | .inl (k, n, q) => .inl (dA k, n, match k with
    | 0 => .inl (D i)
    | 1 => .inr (.inl (L i))
    | _ => .inr (.inr (.inr (.inr (fun j => (q.getD j none).map ad)))))
  | .inr (c, fs) => .inr (c, m_fs ad (D i) (L i) 0 fs)
def m_ws (dA : Nat → Nat) (ad : Nat → Nat) (h : mH) : va_W := h.1.mapIdx fun i s => (ad i, m_cell dA ad h.2.1 h.2.2 i s)
theorem m_ws_len (dA ad : Nat → Nat) (h : mH) : (m_ws dA ad h).length = h.1.length := by simp [m_ws]
theorem m_ws_get {dA ad : Nat → Nat} {h : mH} {i : Nat} {s : mS} (hs : h.1[i]? = some s) : (m_ws dA ad h)[i]? = some (ad i, m_cell dA ad h.2.1 h.2.2 i s) := by
  simp [m_ws, hs]
theorem m_ws_set {dA ad : Nat → Nat} {h h' : mH} {i : Nat} {e : va_E} (ho : ∀ j, j ≠ i → (h.1[j]?).map (m_cell dA ad h.2.1 h.2.2 j) = (h'.1[j]?).map (m_cell dA ad h'.2.1 h'.2.2 j)) (hi : (h'.1[i]?).map (m_cell dA ad h'.2.1 h'.2.2 i) = some e) (hl : i < h.1.length) : (m_ws dA ad h).set i (ad i, e) = m_ws dA ad h' := by
  apply List.ext_getElem?
  intro j
  by_cases hj : j = i
  · subst hj
    rw [List.getElem?_set_self (by rw [m_ws_len]; exact hl)]
    cases hz : h'.1[j]? with
    | none => rw [hz] at hi; cases hi
    | some z => rw [hz] at hi; rw [m_ws_get hz]; simp only [Option.map_some, Option.some.injEq] at hi; rw [hi]
  · rw [List.getElem?_set_ne (Ne.symm hj)]
    have h1 := ho j hj
    cases hz : h.1[j]? with
    | none =>
      rw [hz] at h1
      cases hz' : h'.1[j]? with
      | none => simp [m_ws, hz, hz']
      | some z => rw [hz'] at h1; cases h1
    | some z =>
      rw [hz] at h1
      cases hz' : h'.1[j]? with
      | none => rw [hz'] at h1; cases h1
      | some z' =>
        rw [hz'] at h1
        simp only [Option.map_some, Option.some.injEq] at h1
        rw [m_ws_get hz, m_ws_get hz', h1]
theorem m_ws_push {dA ad : Nat → Nat} {h : mH} {s : mS} {D : Nat → Nat → Int32} {L : Nat → Nat → Int64} (hD : ∀ i, i < h.1.length → D i = h.2.1 i) (hL : ∀ i, i < h.1.length → L i = h.2.2 i) : m_ws dA ad h ++ [(ad h.1.length, m_cell dA ad D L h.1.length s)] = m_ws dA ad (h.1 ++ [s], D, L) := by
  simp only [m_ws]
  rw [List.mapIdx_append]
  congr 1
  · apply List.ext_getElem?
    intro j
    simp only [List.getElem?_mapIdx]
    cases hz : h.1[j]? with
    | none => rfl
    | some z =>
      have hlt := (List.getElem?_eq_some_iff.mp hz).1
      simp only [Option.map_some, Option.some.injEq, Prod.mk.injEq, true_and]
      cases z with
      | inl a => obtain ⟨k, n, q⟩ := a; simp only [m_cell, hD j hlt, hL j hlt]
      | inr a => obtain ⟨c, fs⟩ := a; simp only [m_cell, hD j hlt, hL j hlt]
  · simp
theorem m_sl_app (a b : List mS) : m_sl (a ++ b) = m_sl a + m_sl b := by
  induction a with
  | nil => simp [m_sl]
  | cons x r ih => simp only [List.cons_append, m_sl, ih]; omega
theorem m_sl_set {a : List mS} {i : Nat} {x y : mS} (hx : a[i]? = some x) (he : m_sl1 y = m_sl1 x) : m_sl (a.set i y) = m_sl a := by
  induction a generalizing i with
  | nil => simp at hx
  | cons z r ih =>
    cases i with
    | zero => simp at hx; subst hx; simp [m_sl, he]
    | succ i => simp at hx; simp only [List.set_cons_succ, m_sl, ih hx]
/-- writing an int field -/
theorem m_fs_seti {ad : Nat → Nat} {di di' : Nat → Int32} {li : Nat → Int64} {fs : List Value} {k : Nat} {z x : Int32} (hk : fs[k]? = some (.int z)) (hd : ∀ j, di' j = if j = k then x else di j) : (m_fs ad di li 0 fs).set k (.int x) = m_fs ad di' li 0 fs := by
  apply List.ext_getElem?
  intro j
  have hl := (List.getElem?_eq_some_iff.mp hk).1
  by_cases hj : j = k
  · subst hj
    rw [List.getElem?_set_self (by rw [m_fs_len]; exact hl), m_fs_get, hk]
    simp [m_fv, hd]
  · rw [List.getElem?_set_ne (Ne.symm hj), m_fs_get, m_fs_get]
    cases hz : fs[j]? with
    | none => rfl
    | some v => cases v <;> simp [m_fv, hd, hj]
theorem m_fs_setl {ad : Nat → Nat} {di : Nat → Int32} {li li' : Nat → Int64} {fs : List Value} {k : Nat} {z x : Int64} (hk : fs[k]? = some (.long z)) (hd : ∀ j, li' j = if j = k then x else li j) : (m_fs ad di li 0 fs).set k (.long x) = m_fs ad di li' 0 fs := by
  apply List.ext_getElem?
  intro j
  have hl := (List.getElem?_eq_some_iff.mp hk).1
  by_cases hj : j = k
  · subst hj
    rw [List.getElem?_set_self (by rw [m_fs_len]; exact hl), m_fs_get, hk]
    simp [m_fv, hd]
  · rw [List.getElem?_set_ne (Ne.symm hj), m_fs_get, m_fs_get]
    cases hz : fs[j]? with
    | none => rfl
    | some v => cases v <;> simp [m_fv, hd, hj]
theorem m_fs_setr {ad : Nat → Nat} {di : Nat → Int32} {li : Nat → Int64} {fs : List Value} {k q : Nat} {v : Value} (hk : fs[k]? = some v) : (m_fs ad di li 0 fs).set k (.ref (ad q)) = m_fs ad di li 0 (fs.set k (.ref q)) := by
  apply List.ext_getElem?
  intro j
  have hl := (List.getElem?_eq_some_iff.mp hk).1
  by_cases hj : j = k
  · subst hj
    rw [List.getElem?_set_self (by rw [m_fs_len]; exact hl), m_fs_get, List.getElem?_set_self hl]
    simp [m_fv]
  · rw [List.getElem?_set_ne (Ne.symm hj), m_fs_get, m_fs_get, List.getElem?_set_ne (Ne.symm hj)]
theorem m_mu_self (D : Nat → Nat → Int32) (i k : Nat) (x : Int32) : mu D i k x i = upd (D i) k x := by
  simp only [mu, if_true]; rfl
theorem m_mu_ne (D : Nat → Nat → Int32) {i j : Nat} (k : Nat) (x : Int32) (h : j ≠ i) : mu D i k x j = D j := by
  simp only [mu, if_neg h]
theorem m_muL_self (D : Nat → Nat → Int64) (i k : Nat) (x : Int64) : muL D i k x i = vp_updL (D i) k x := by
  simp only [muL, if_true]; rfl
theorem m_muL_ne (D : Nat → Nat → Int64) {i j : Nat} (k : Nat) (x : Int64) (h : j ≠ i) : muL D i k x j = D j := by
  simp only [muL, if_neg h]
theorem m_cell_eq {dA ad : Nat → Nat} {D D' : Nat → Nat → Int32} {L L' : Nat → Nat → Int64} {i : Nat} (s : mS) (hD : D' i = D i) (hL : L' i = L i) : m_cell dA ad D L i s = m_cell dA ad D' L' i s := by
  cases s with
  | inl a => obtain ⟨k, n, q⟩ := a; simp only [m_cell, hD, hL]
  | inr a => obtain ⟨c, fs⟩ := a; simp only [m_cell, hD, hL]
/-- locals -/
def m_LH (ad : Nat → Nat) (vF : Value) (ls : Array Slot) (nL : Nat) (l : List (Option Value)) : Prop := ls.size = nL ∧ lv_wf ls ∧ ∀ (i : Nat) (v : Value), l[i]? = some (some v) → ls[i]? = some (.val (m_v ad vF v))
def m_lv (ad : Nat → Nat) (vF : Value) : Nat → List (Option Value) → List (Nat × Value)
  | _, [] => []
  | i, none :: r => m_lv ad vF (i + 1) r
  | i, some v :: r => (i, m_v ad vF v) :: m_lv ad vF (i + 1) r
theorem m_lv_mem (ad : Nat → Nat) (vF : Value) : ∀ (l : List (Option Value)) (i : Nat) (q : Nat × Value), q ∈ m_lv ad vF i l ↔ ∃ j v, l[j]? = some (some v) ∧ q = (i + j, m_v ad vF v) := by
  intro l
  induction l with
  | nil => intro i q; simp [m_lv]
  | cons a r ih =>
    intro i q
    have step : ∀ (z : Option Value), (∃ j v, r[j]? = some (some v) ∧ q = (i + 1 + j, m_v ad vF v)) ↔ ∃ j v, (z :: r)[j + 1]? = some (some v) ∧ q = (i + (j + 1), m_v ad vF v) := by
      intro z
      constructor
      · rintro ⟨j, v, h1, h2⟩; exact ⟨j, v, by simpa using h1, by rw [h2, show i + 1 + j = i + (j + 1) by omega]⟩
      · rintro ⟨j, v, h1, h2⟩; exact ⟨j, v, by simpa using h1, by rw [h2, show i + 1 + j = i + (j + 1) by omega]⟩
    cases a with
    | none =>
      simp only [m_lv]
      rw [ih, step none]
      constructor
      · rintro ⟨j, v, h1, h2⟩; exact ⟨j + 1, v, h1, h2⟩
      · rintro ⟨j, v, h1, h2⟩
        cases j with
        | zero => simp at h1
        | succ j => exact ⟨j, v, h1, h2⟩
    | some w =>
      simp only [m_lv, List.mem_cons]
      rw [ih, step (some w)]
      constructor
      · rintro (h | ⟨j, v, h1, h2⟩)
        · exact ⟨0, w, by simp, by simpa using h⟩
        · exact ⟨j + 1, v, h1, h2⟩
      · rintro ⟨j, v, h1, h2⟩
        cases j with
        | zero => left; simp at h1; subst h1; simpa using h2
        | succ j => exact Or.inr ⟨j, v, h1, h2⟩
theorem m_LH.has {ad : Nat → Nat} {vF : Value} {ls : Array Slot} {nL : Nat} {l : List (Option Value)} (h : m_LH ad vF ls nL l) : lv_has ls nL (m_lv ad vF 0 l) := by
  refine ⟨h.1, h.2.1, fun q hq => ?_⟩
  obtain ⟨j, v, h1, rfl⟩ := (m_lv_mem ad vF l 0 q).mp hq
  simpa using h.2.2 j v h1
theorem m_LH.of {ad : Nat → Nat} {vF : Value} {ls : Array Slot} {nL : Nat} {l : List (Option Value)} {lv : List (Nat × Value)} (h : lv_has ls nL lv) (hl : ∀ (i : Nat) (v : Value), l[i]? = some (some v) → (i, m_v ad vF v) ∈ lv) : m_LH ad vF ls nL l :=
  ⟨h.1, h.2.1, fun i v hv => h.2.2 _ (hl i v hv)⟩
/-- behind a store of one place: what the machine still knows is among what the row gives -/
theorem m_s1_ok {ad : Nat → Nat} {vF : Value} {l l' : List (Option Value)} {i : Nat} {v : Value} (hc : ∀ w : Value, (m_v ad vF w).category = 2 → ∃ x, w = .long x ∨ ∃ y, w = .double y) (h : m_s1 l i v = some l') : i < l.length ∧ ∀ (j : Nat) (w : Value), l'[j]? = some (some w) → (j, m_v ad vF w) ∈ (i, m_v ad vF v) :: (m_lv ad vF 0 l).filter (fun q => !(q.1 == i) && !(q.1 + 1 == i && q.2.category == 2)) := by
  unfold m_s1 at h
  split at h
  · next hi =>
    refine ⟨hi, fun j w hw => ?_⟩
    have key : ∀ l2 : List (Option Value), (∀ j w, l2[j]? = some (some w) → j = i ∧ w = v ∨ (j ≠ i ∧ l[j]? = some (some w) ∧ (j + 1 = i → ¬ (m_v ad vF w).category = 2))) → l2[j]? = some (some w) → (j, m_v ad vF w) ∈ (i, m_v ad vF v) :: (m_lv ad vF 0 l).filter (fun q => !(q.1 == i) && !(q.1 + 1 == i && q.2.category == 2)) := by
      intro l2 hk hj
      rcases hk j w hj with ⟨rfl, rfl⟩ | ⟨h1, h2, h3⟩
      · exact List.mem_cons_self
      · refine List.mem_cons_of_mem _ (List.mem_filter.mpr ⟨(m_lv_mem ad vF l 0 _).mpr ⟨j, w, h2, by simp⟩, ?_⟩)
        by_cases h4 : j + 1 = i
        · have := h3 h4
          simp [h1, this]
        · simp [h1, h4]
    have hset : ∀ (n : Nat), i = n → ∀ j w, (l.set n (some v))[j]? = some (some w) → j = i ∧ w = v ∨ (j ≠ i ∧ l[j]? = some (some w)) := by
      rintro n rfl j w hj
      by_cases hji : j = i
      · subst hji
        rw [List.getElem?_set_self hi] at hj
        simp at hj
        exact Or.inl ⟨rfl, hj.symm⟩
      · rw [List.getElem?_set_ne (Ne.symm hji)] at hj
        exact Or.inr ⟨hji, hj⟩
    cases i with
    | zero =>
      simp only [Option.some.injEq] at h
      subst h
      refine key _ (fun j w hj => ?_) hw
      rcases hset 0 rfl j w hj with h1 | ⟨h1, h2⟩
      · exact Or.inl h1
      · exact Or.inr ⟨h1, h2, fun z => by omega⟩
    | succ k =>
      simp only at h
      split at h
      · next x hk =>
        simp only [Option.some.injEq] at h
        subst h
        refine key _ (fun j w hj => ?_) hw
        by_cases hjk : j = k
        · subst hjk
          by_cases hlt : j < (l.set (j + 1) (some v)).length
          · rw [List.getElem?_set_self hlt] at hj; cases hj
          · rw [List.getElem?_eq_none (by simpa using hlt)] at hj; cases hj
        · rw [List.getElem?_set_ne (Ne.symm hjk)] at hj
          rcases hset (k + 1) rfl j w hj with h1 | ⟨h1, h2⟩
          · exact Or.inl h1
          · exact Or.inr ⟨h1, h2, fun z => by omega⟩
      · cases h
      · next n1 n2 =>
        simp only [Option.some.injEq] at h
        subst h
        refine key _ (fun j w hj => ?_) hw
        rcases hset (k + 1) rfl j w hj with h1 | ⟨h1, h2⟩
        · exact Or.inl h1
        · refine Or.inr ⟨h1, h2, fun z hc2 => ?_⟩
          have hjk : j = k := by omega
          subst hjk
          obtain ⟨x, rfl | ⟨y, rfl⟩⟩ := hc w hc2
          · exact n1 x h2
          · exact n2 y h2
  · cases h
theorem m_s2_ok {ad : Nat → Nat} {vF : Value} {l l' : List (Option Value)} {i : Nat} {v : Value} (hc : ∀ w : Value, (m_v ad vF w).category = 2 → ∃ x, w = .long x ∨ ∃ y, w = .double y) (h : m_s2 l i v = some l') : i + 1 < l.length ∧ ∀ (j : Nat) (w : Value), l'[j]? = some (some w) → (j, m_v ad vF w) ∈ (i, m_v ad vF v) :: (m_lv ad vF 0 l).filter (fun q => !(q.1 == i) && (!(q.1 == i + 1) && !(q.1 + 1 == i && q.2.category == 2))) := by
  unfold m_s2 at h
  split at h
  · next hi =>
    refine ⟨hi, fun j w hw => ?_⟩
    have key : ∀ l2 : List (Option Value), (∀ j w, l2[j]? = some (some w) → j = i ∧ w = v ∨ (j ≠ i ∧ j ≠ i + 1 ∧ l[j]? = some (some w) ∧ (j + 1 = i → ¬ (m_v ad vF w).category = 2))) → l2[j]? = some (some w) → (j, m_v ad vF w) ∈ (i, m_v ad vF v) :: (m_lv ad vF 0 l).filter (fun q => !(q.1 == i) && (!(q.1 == i + 1) && !(q.1 + 1 == i && q.2.category == 2))) := by
      intro l2 hk hj
      rcases hk j w hj with ⟨rfl, rfl⟩ | ⟨h1, h0, h2, h3⟩
      · exact List.mem_cons_self
      · refine List.mem_cons_of_mem _ (List.mem_filter.mpr ⟨(m_lv_mem ad vF l 0 _).mpr ⟨j, w, h2, by simp⟩, ?_⟩)
        by_cases h4 : j + 1 = i
        · have := h3 h4
          simp [h1, h0, this]
        · simp [h1, h0, h4]
    have hset : ∀ (n : Nat), i = n → ∀ j w, ((l.set n (some v)).set (n + 1) none)[j]? = some (some w) → j = i ∧ w = v ∨ (j ≠ i ∧ j ≠ i + 1 ∧ l[j]? = some (some w)) := by
      rintro n rfl j w hj
      by_cases hj1 : j = i + 1
      · subst hj1
        rw [List.getElem?_set_self (by simpa using hi)] at hj
        cases hj
      · rw [List.getElem?_set_ne (Ne.symm hj1)] at hj
        by_cases hji : j = i
        · subst hji
          rw [List.getElem?_set_self (by omega)] at hj
          simp at hj
          exact Or.inl ⟨rfl, hj.symm⟩
        · rw [List.getElem?_set_ne (Ne.symm hji)] at hj
          exact Or.inr ⟨hji, hj1, hj⟩
    cases i with
    | zero =>
      simp only [Option.some.injEq] at h
      subst h
      refine key _ (fun j w hj => ?_) hw
      rcases hset 0 rfl j w hj with h1 | ⟨h1, h0, h2⟩
      · exact Or.inl h1
      · exact Or.inr ⟨h1, h0, h2, fun z => by omega⟩
    | succ k =>
      simp only at h
      split at h
      · next x hk =>
        simp only [Option.some.injEq] at h
        subst h
        refine key _ (fun j w hj => ?_) hw
        by_cases hjk : j = k
        · subst hjk
          by_cases hlt : j < ((l.set (j + 1) (some v)).set (j + 2) none).length
          · rw [List.getElem?_set_self hlt] at hj; cases hj
          · rw [List.getElem?_eq_none (by simpa using hlt)] at hj; cases hj
        · rw [List.getElem?_set_ne (Ne.symm hjk)] at hj
          rcases hset (k + 1) rfl j w hj with h1 | ⟨h1, h0, h2⟩
          · exact Or.inl h1
          · exact Or.inr ⟨h1, h0, h2, fun z => by omega⟩
      · cases h
      · next n1 n2 =>
        simp only [Option.some.injEq] at h
        subst h
        refine key _ (fun j w hj => ?_) hw
        rcases hset (k + 1) rfl j w hj with h1 | ⟨h1, h0, h2⟩
        · exact Or.inl h1
        · refine Or.inr ⟨h1, h0, h2, fun z hc2 => ?_⟩
          have hjk : j = k := by omega
          subst hjk
          obtain ⟨x, rfl | ⟨y, rfl⟩⟩ := hc w hc2
          · exact n1 x h2
          · exact n2 y h2
  · cases h
end
section
def m_A (base : Nat) : Nat → Prop := fun q => base ≤ q
def m_tys (dA : Nat → Nat) : List (ClassId × FieldType) := [(dA 0, .int), (dA 1, .long), (dA 2, .object "IsHeIn$Moment")]
/-- what stands fixed beside the world: the tables, the script, the static row, the Strings -/
def m_Fx (ad : Nat → Nat) (base : Nat) (vF : Value) (dC : Nat → ClassId) (dI : Nat → Nat → Nat) (dA : Nat → Nat) (N : Nat) (xs : Nat → Int32) (U : State) (H : Heap) : Prop :=
  va_K (dC, dI) m_cl (m_tys dA) U ∧ (∀ w ∈ m_nest, va_Nw w U) ∧ va_AO "IsHeIn$Moment" U ∧ (va_X (ad 1000000) N xs U H ∧ ad 1000000 < H.size ∧ ad 1000000 < base) ∧
  va_T .int (ad 1000001) 5 (fun j => .int (m_unt.getD j 0)) (m_A base) U H ∧ va_Z "IsHeIn" "UNTOLD" "[I" (.ref (ad 1000001)) (m_A base) U H ∧ va_Z "java/lang/String" "COMPACT_STRINGS" "Z" (.int 1) (m_A base) U H ∧ va_Z "jdk/internal/util/Preconditions" "SIOOBE_FORMATTER" "Ljava/util/function/BiFunction;" vF (m_A base) U H ∧
  (∀ k, k < 27 → va_O "java/lang/String" (ad (1000100 + k)) (m_A base) U H ∧ va_OF "java/lang/String" "coder" "B" (.int 0) (ad (1000100 + k)) (m_A base) U H ∧ va_OF "java/lang/String" "value" "[B" (.ref (ad (1000200 + k))) (ad (1000100 + k)) (m_A base) U H ∧ va_T .byte (ad (1000200 + k)) (m_sb.getD k []).length (fun j => .int ((m_sb.getD k []).getD j 0)) (m_A base) U H) ∧
  (∀ k, k < 27 → ∀ q, m_str[k]? = some q → vk_R q.1 q.2.1 q.2.2 (ad (1000100 + k)) U) ∧ base ≤ H.size ∧ vF.category = 1 ∧ ∀ j, j < 1000000 → ad j = base + j
theorem m_v_cat {ad : Nat → Nat} {vF : Value} (h : vF.category = 1) (w : Value) : (m_v ad vF w).category = w.category := by
  cases w <;> simp [m_v, Value.category] <;> (try exact h)
theorem m_v_cat2 {ad : Nat → Nat} {vF : Value} (h : vF.category = 1) (w : Value) (hc : (m_v ad vF w).category = 2) : ∃ x, w = .long x ∨ ∃ y, w = .double y := by
  rw [m_v_cat h] at hc
  cases w with
  | long x => exact ⟨x, Or.inl rfl⟩
  | double y => exact ⟨0, Or.inr ⟨y, rfl⟩⟩
  | _ => simp [Value.category] at hc
section MS
variable {p : Program} {l : Launch} {e : Env} {R : Room} {s : State} {m : MethodId} {args : Array Value} {below : List Frame} {meth : Method} {c : Code} {H : Heap} {locs : List Loc} {cells slots : Nat} {Q : State → Prop}
variable {cc : ByteArray} {pc pc' nL : Nat} {lsA : Array Slot} {ls ls' : List (Option Value)} {st st' : List Value} {h h' : mH} {ins : Instr} {aux : List Int} {own nm : String} {tab : List mM}
variable {ad : Nat → Nat} {base : Nat} {vF : Value} {dC : Nat → ClassId} {dI : Nat → Nat → Nat} {dA : Nat → Nat} {N : Nat} {xs : Nat → Int32}
theorem m_li_ok {i : Nat} {x : Int32} (hL : m_LH ad vF lsA nL ls) (h : m_li ls i = some x) : lsA[i]? = some (.val (.int x)) := by
  unfold m_li at h
  split at h
  · next y hy => cases h; exact hL.2.2 i _ hy
  · cases h
theorem m_ll_ok {i : Nat} {x : Int64} (hL : m_LH ad vF lsA nL ls) (h : m_ll ls i = some x) : lsA[i]? = some (.val (.long x)) := by
  unfold m_ll at h
  split at h
  · next y hy => cases h; exact hL.2.2 i _ hy
  · cases h
theorem m_la_ok {i : Nat} {x : Value} (hL : m_LH ad vF lsA nL ls) (h : m_la ls i = some x) : (∃ j, x = .ref j ∧ lsA[i]? = some (.val (.ref (ad j)))) ∨ (x = .null ∧ lsA[i]? = some (.val .null)) := by
  unfold m_la at h
  split at h
  · next y hy => cases h; exact Or.inl ⟨y, rfl, hL.2.2 i _ hy⟩
  · next hy => cases h; exact Or.inr ⟨rfl, hL.2.2 i _ hy⟩
  · cases h
set_option maxHeartbeats 4000000 in
theorem m_op1_ok (hop : m_op1 ins aux pc ls st h = some (pc', ls', st', h')) (hd : decode cc pc = .ok (ins, m_len ins aux)) (hok : m_okI own nm tab pc ins aux = true) (hx : p.tables.exec = Jvm.exec) (hb : c.code = cc) (hown : s.vm.findClass own = some m.cls) (hts : ∀ w ∈ m_TW, w.before args s = true) (hF : m_Fx ad base vF dC dI dA N xs s s.heap) (hnL : ls.length = nL)
    (hL : m_LH ad vF lsA nL ls) (kk : h' = h → ls'.length = nL → ∀ lsA', m_LH ad vF lsA' nL ls' → W p l e R s m args below meth c H locs cells slots Q (F0 m pc' lsA' (st'.map (m_v ad vF)))) : W p l e R s m args below meth c H locs cells slots Q (F0 m pc lsA (st.map (m_v ad vF))) := by
  have hvF : vF.category = 1 := hF.2.2.2.2.2.2.2.2.2.2.2.1
  have hc2 := m_v_cat2 (ad := ad) hvF
  have s1len : ∀ {i : Nat} {v : Value} {l' : List (Option Value)}, m_s1 ls i v = some l' → l'.length = nL := by
    intro i v l' q
    unfold m_s1 at q
    split at q
    · split at q
      · cases q; simpa using hnL
      · split at q
        · cases q; simpa using hnL
        · cases q
        · cases q; simpa using hnL
    · cases q
  have s2len : ∀ {i : Nat} {v : Value} {l' : List (Option Value)}, m_s2 ls i v = some l' → l'.length = nL := by
    intro i v l' q
    unfold m_s2 at q
    split at q
    · split at q
      · cases q; simpa using hnL
      · split at q
        · cases q; simpa using hnL
        · cases q
        · cases q; simpa using hnL
    · cases q
  cases ins <;> try (simp [m_op1] at hop; done)
  case iconst n =>
    simp only [m_op1, Option.some.injEq, Prod.mk.injEq] at hop
    obtain ⟨rfl, rfl, rfl, rfl⟩ := hop
    exact lv_iconst hx hb hd rfl (kk rfl hnL lsA hL)
  case bipush n =>
    simp only [m_op1, Option.some.injEq, Prod.mk.injEq] at hop
    obtain ⟨rfl, rfl, rfl, rfl⟩ := hop
    exact lv_bipush hx hb hd rfl (kk rfl hnL lsA hL)
  case sipush n =>
    simp only [m_op1, Option.some.injEq, Prod.mk.injEq] at hop
    obtain ⟨rfl, rfl, rfl, rfl⟩ := hop
    exact lv_sipush hx hb hd rfl (kk rfl hnL lsA hL)
  case lconst n =>
    simp only [m_op1, Option.some.injEq, Prod.mk.injEq] at hop
    obtain ⟨rfl, rfl, rfl, rfl⟩ := hop
    exact lv_lconst hx hb hd rfl (kk rfl hnL lsA hL)
  case aconst_null =>
    simp only [m_op1, Option.some.injEq, Prod.mk.injEq] at hop
    obtain ⟨rfl, rfl, rfl, rfl⟩ := hop
    exact lv_null hx hb hd (kk rfl hnL lsA hL)
  case ldc i =>
    unfold m_op1 at hop
    simp only at hop
    split at hop
    · next v pl =>
      simp only [Option.some.injEq, Prod.mk.injEq] at hop
      obtain ⟨rfl, rfl, rfl, rfl⟩ := hop
      exact lv_ldc hx hb hown (hts _ (m_w_in hok)) hd (kk rfl hnL lsA hL)
    · next k pl =>
      split at hop
      · next hk =>
        simp only [Option.some.injEq, Prod.mk.injEq] at hop
        obtain ⟨rfl, rfl, rfl, rfl⟩ := hop
        have hs := hF.2.2.2.2.2.2.2.2.2.1 k.toNat hk
        simp only [m_okI] at hok
        split at hok
        · next o j t hq =>
          simp only [Bool.and_eq_true, decide_eq_true_eq] at hok
          obtain ⟨rfl, rfl⟩ := hok
          exact va_ldcS hx hb hown (hs _ hq) hd (kk rfl hnL lsA hL)
        · cases hok
      · cases hop
    · cases hop
  case ldc_w i =>
    unfold m_op1 at hop
    simp only at hop
    split at hop
    · next v pl =>
      simp only [Option.some.injEq, Prod.mk.injEq] at hop
      obtain ⟨rfl, rfl, rfl, rfl⟩ := hop
      exact lv_ldcw hx hb hown (hts _ (m_w_in hok)) hd (kk rfl hnL lsA hL)
    · cases hop
  case ldc2_w i =>
    unfold m_op1 at hop
    simp only at hop
    split at hop
    · next v pl =>
      simp only [Option.some.injEq, Prod.mk.injEq] at hop
      obtain ⟨rfl, rfl, rfl, rfl⟩ := hop
      exact lv_ldc2 hx hb hown (hts _ (m_w_in hok)) hd (kk rfl hnL lsA hL)
    · cases hop
  case iload_n k =>
    simp only [m_op1] at hop
    split at hop
    · next x hq =>
      simp only [Option.some.injEq, Prod.mk.injEq] at hop
      obtain ⟨rfl, rfl, rfl, rfl⟩ := hop
      exact lv_iload_n hx hb hd rfl (m_li_ok hL hq) (kk rfl hnL lsA hL)
    · cases hop
  case iload k =>
    simp only [m_op1] at hop
    split at hop
    · next x hq =>
      simp only [Option.some.injEq, Prod.mk.injEq] at hop
      obtain ⟨rfl, rfl, rfl, rfl⟩ := hop
      exact lv_iload hx hb hd (m_li_ok hL hq) (kk rfl hnL lsA hL)
    · cases hop
  case lload_n k =>
    simp only [m_op1] at hop
    split at hop
    · next x hq =>
      simp only [Option.some.injEq, Prod.mk.injEq] at hop
      obtain ⟨rfl, rfl, rfl, rfl⟩ := hop
      exact lv_lload_n hx hb hd rfl (m_ll_ok hL hq) (kk rfl hnL lsA hL)
    · cases hop
  case lload k =>
    simp only [m_op1] at hop
    split at hop
    · next x hq =>
      simp only [Option.some.injEq, Prod.mk.injEq] at hop
      obtain ⟨rfl, rfl, rfl, rfl⟩ := hop
      exact lv_lload hx hb hd (m_ll_ok hL hq) (kk rfl hnL lsA hL)
    · cases hop
  case aload_n k =>
    simp only [m_op1] at hop
    split at hop
    · next x hq =>
      simp only [Option.some.injEq, Prod.mk.injEq] at hop
      obtain ⟨rfl, rfl, rfl, rfl⟩ := hop
      rcases m_la_ok hL hq with ⟨j, rfl, h1⟩ | ⟨rfl, h1⟩
      · exact lv_aload_n hx hb hd rfl h1 (kk rfl hnL lsA hL)
      · exact lv_aload_nN hx hb hd rfl h1 (kk rfl hnL lsA hL)
    · cases hop
  case aload k =>
    simp only [m_op1] at hop
    split at hop
    · next x hq =>
      simp only [Option.some.injEq, Prod.mk.injEq] at hop
      obtain ⟨rfl, rfl, rfl, rfl⟩ := hop
      rcases m_la_ok hL hq with ⟨j, rfl, h1⟩ | ⟨rfl, h1⟩
      · exact lv_aload hx hb hd h1 (kk rfl hnL lsA hL)
      · exact lv_aloadN hx hb hd h1 (kk rfl hnL lsA hL)
    · cases hop
  case istore_n k =>
    simp only [m_op1] at hop
    split at hop
    · next x r =>
      split at hop
      · next l hq =>
        simp only [Option.some.injEq, Prod.mk.injEq] at hop
        obtain ⟨rfl, rfl, rfl, rfl⟩ := hop
        obtain ⟨h1, h2⟩ := m_s1_ok (vF := vF) hc2 hq
        exact lv_istore_n hx hb hd rfl hL.has (hnL ▸ h1) rfl (fun ls2 h3 => kk rfl (s1len hq) ls2 (m_LH.of h3 h2))
      · cases hop
    · cases hop
  case istore k =>
    simp only [m_op1] at hop
    split at hop
    · next x r =>
      split at hop
      · next l hq =>
        simp only [Option.some.injEq, Prod.mk.injEq] at hop
        obtain ⟨rfl, rfl, rfl, rfl⟩ := hop
        obtain ⟨h1, h2⟩ := m_s1_ok (vF := vF) hc2 hq
        exact lv_istore hx hb hd hL.has (hnL ▸ h1) rfl (fun ls2 h3 => kk rfl (s1len hq) ls2 (m_LH.of h3 h2))
      · cases hop
    · cases hop
  case lstore_n k =>
    simp only [m_op1] at hop
    split at hop
    · next x r =>
      split at hop
      · next l hq =>
        simp only [Option.some.injEq, Prod.mk.injEq] at hop
        obtain ⟨rfl, rfl, rfl, rfl⟩ := hop
        obtain ⟨h1, h2⟩ := m_s2_ok (vF := vF) hc2 hq
        exact lv_lstore_n hx hb hd rfl hL.has (hnL ▸ h1) rfl (fun ls2 h3 => kk rfl (s2len hq) ls2 (m_LH.of h3 h2))
      · cases hop
    · cases hop
  case lstore k =>
    simp only [m_op1] at hop
    split at hop
    · next x r =>
      split at hop
      · next l hq =>
        simp only [Option.some.injEq, Prod.mk.injEq] at hop
        obtain ⟨rfl, rfl, rfl, rfl⟩ := hop
        obtain ⟨h1, h2⟩ := m_s2_ok (vF := vF) hc2 hq
        exact lv_lstore hx hb hd hL.has (hnL ▸ h1) rfl (fun ls2 h3 => kk rfl (s2len hq) ls2 (m_LH.of h3 h2))
      · cases hop
    · cases hop
  case astore_n k =>
    simp only [m_op1] at hop
    split at hop
    · next x r =>
      split at hop
      · next l hq =>
        simp only [Option.some.injEq, Prod.mk.injEq] at hop
        obtain ⟨rfl, rfl, rfl, rfl⟩ := hop
        obtain ⟨h1, h2⟩ := m_s1_ok (vF := vF) hc2 hq
        exact lv_astore_n hx hb hd rfl hL.has (hnL ▸ h1) rfl (fun ls2 h3 => kk rfl (s1len hq) ls2 (m_LH.of h3 h2))
      · cases hop
    · next r =>
      split at hop
      · next l hq =>
        simp only [Option.some.injEq, Prod.mk.injEq] at hop
        obtain ⟨rfl, rfl, rfl, rfl⟩ := hop
        obtain ⟨h1, h2⟩ := m_s1_ok (vF := vF) hc2 hq
        exact lv_astore_nN hx hb hd rfl hL.has (hnL ▸ h1) rfl (fun ls2 h3 => kk rfl (s1len hq) ls2 (m_LH.of h3 h2))
      · cases hop
    · cases hop
  case astore k =>
    simp only [m_op1] at hop
    split at hop
    · next x r =>
      split at hop
      · next l hq =>
        simp only [Option.some.injEq, Prod.mk.injEq] at hop
        obtain ⟨rfl, rfl, rfl, rfl⟩ := hop
        obtain ⟨h1, h2⟩ := m_s1_ok (vF := vF) hc2 hq
        exact lv_astore hx hb hd hL.has (hnL ▸ h1) rfl (fun ls2 h3 => kk rfl (s1len hq) ls2 (m_LH.of h3 h2))
      · cases hop
    · next r =>
      split at hop
      · next l hq =>
        simp only [Option.some.injEq, Prod.mk.injEq] at hop
        obtain ⟨rfl, rfl, rfl, rfl⟩ := hop
        obtain ⟨h1, h2⟩ := m_s1_ok (vF := vF) hc2 hq
        exact lv_astoreN hx hb hd hL.has (hnL ▸ h1) rfl (fun ls2 h3 => kk rfl (s1len hq) ls2 (m_LH.of h3 h2))
      · cases hop
    · cases hop
  case iinc k n =>
    simp only [m_op1] at hop
    split at hop
    · next x hq0 =>
      split at hop
      · next l hq =>
        simp only [Option.some.injEq, Prod.mk.injEq] at hop
        obtain ⟨rfl, rfl, rfl, rfl⟩ := hop
        obtain ⟨h1, h2⟩ := m_s1_ok (vF := vF) hc2 hq
        have hm : (k, Value.int x) ∈ m_lv ad vF 0 ls := by
          unfold m_li at hq0
          split at hq0
          · next y hy => cases hq0; exact (m_lv_mem ad vF ls 0 _).mpr ⟨k, _, hy, by simp [m_v]⟩
          · cases hq0
        obtain ⟨i0, hi0⟩ := List.getElem?_of_mem hm
        exact lv_iinc hx hb hd hL.has hi0 rfl (hnL ▸ h1) rfl (fun ls2 h3 => kk rfl (s1len hq) ls2 (m_LH.of h3 h2))
      · cases hop
    · cases hop
end MS
end
section
section MS2
variable {p : Program} {l : Launch} {e : Env} {R : Room} {s : State} {m : MethodId} {args : Array Value} {below : List Frame} {meth : Method} {c : Code} {H : Heap} {locs : List Loc} {cells slots : Nat} {Q : State → Prop}
variable {cc : ByteArray} {pc pc' nL : Nat} {lsA : Array Slot} {ls ls' : List (Option Value)} {st st' : List Value} {h h' : mH} {ins : Instr} {aux : List Int} {own nm : String} {tab : List mM}
variable {ad : Nat → Nat} {base : Nat} {vF : Value} {dC : Nat → ClassId} {dI : Nat → Nat → Nat} {dA : Nat → Nat} {N : Nat} {xs : Nat → Int32}
set_option maxHeartbeats 4000000 in
theorem m_op2_ok (hop : m_op2 ins pc ls st h = some (pc', ls', st', h')) (hd : decode cc pc = .ok (ins, m_len ins aux)) (hok : m_okI own nm tab pc ins aux = true) (hx : p.tables.exec = Jvm.exec) (hb : c.code = cc)
    (kk : h' = h → ls' = ls → W p l e R s m args below meth c H locs cells slots Q (F0 m pc' lsA (st'.map (m_v ad vF)))) : W p l e R s m args below meth c H locs cells slots Q (F0 m pc lsA (st.map (m_v ad vF))) := by
  unfold m_op2 at hop
  split at hop
  · next y x r =>
    simp only [Option.some.injEq, Prod.mk.injEq] at hop
    obtain ⟨rfl, rfl, rfl, rfl⟩ := hop
    exact lv_iadd hx hb hd (kk rfl rfl)
  · next y x r =>
    simp only [Option.some.injEq, Prod.mk.injEq] at hop
    obtain ⟨rfl, rfl, rfl, rfl⟩ := hop
    exact lv_isub hx hb hd (kk rfl rfl)
  · next y x r =>
    simp only [Option.some.injEq, Prod.mk.injEq] at hop
    obtain ⟨rfl, rfl, rfl, rfl⟩ := hop
    exact lv_imul hx hb hd (kk rfl rfl)
  · next y x r =>
    simp only [Option.some.injEq, Prod.mk.injEq] at hop
    obtain ⟨rfl, rfl, rfl, rfl⟩ := hop
    exact lv_iand hx hb hd (kk rfl rfl)
  · next y x r =>
    simp only [Option.some.injEq, Prod.mk.injEq] at hop
    obtain ⟨rfl, rfl, rfl, rfl⟩ := hop
    exact lv_ior hx hb hd (kk rfl rfl)
  · next y x r =>
    split at hop
    · cases hop
    · next hne =>
      simp only [Option.some.injEq, Prod.mk.injEq] at hop
      obtain ⟨rfl, rfl, rfl, rfl⟩ := hop
      exact lv_idiv hx hb hd hne (kk rfl rfl)
  · next y x r =>
    split at hop
    · cases hop
    · next hne =>
      simp only [Option.some.injEq, Prod.mk.injEq] at hop
      obtain ⟨rfl, rfl, rfl, rfl⟩ := hop
      exact lv_irem hx hb hd hne (kk rfl rfl)
  · next x r =>
    simp only [Option.some.injEq, Prod.mk.injEq] at hop
    obtain ⟨rfl, rfl, rfl, rfl⟩ := hop
    exact lv_ineg hx hb hd (kk rfl rfl)
  · next y x r =>
    simp only [Option.some.injEq, Prod.mk.injEq] at hop
    obtain ⟨rfl, rfl, rfl, rfl⟩ := hop
    exact lv_ishl hx hb hd (kk rfl rfl)
  · next y x r =>
    simp only [Option.some.injEq, Prod.mk.injEq] at hop
    obtain ⟨rfl, rfl, rfl, rfl⟩ := hop
    exact lv_ishr hx hb hd (kk rfl rfl)
  · next y x r =>
    simp only [Option.some.injEq, Prod.mk.injEq] at hop
    obtain ⟨rfl, rfl, rfl, rfl⟩ := hop
    exact lv_iushr hx hb hd rfl (kk rfl rfl)
  · next y x r =>
    simp only [Option.some.injEq, Prod.mk.injEq] at hop
    obtain ⟨rfl, rfl, rfl, rfl⟩ := hop
    exact lv_ladd hx hb hd (kk rfl rfl)
  · next y x r =>
    simp only [Option.some.injEq, Prod.mk.injEq] at hop
    obtain ⟨rfl, rfl, rfl, rfl⟩ := hop
    exact lv_lsub hx hb hd (kk rfl rfl)
  · next y x r =>
    simp only [Option.some.injEq, Prod.mk.injEq] at hop
    obtain ⟨rfl, rfl, rfl, rfl⟩ := hop
    exact lv_lmul hx hb hd (kk rfl rfl)
  · next y x r =>
    split at hop
    · cases hop
    · next hne =>
      simp only [Option.some.injEq, Prod.mk.injEq] at hop
      obtain ⟨rfl, rfl, rfl, rfl⟩ := hop
      exact lv_ldiv hx hb hd hne (kk rfl rfl)
  · next y x r =>
    simp only [Option.some.injEq, Prod.mk.injEq] at hop
    obtain ⟨rfl, rfl, rfl, rfl⟩ := hop
    exact W.lcmp hx hb hd (kk rfl rfl)
  · next x r =>
    simp only [Option.some.injEq, Prod.mk.injEq] at hop
    obtain ⟨rfl, rfl, rfl, rfl⟩ := hop
    exact lv_i2l hx hb hd rfl (kk rfl rfl)
  · next x r =>
    simp only [Option.some.injEq, Prod.mk.injEq] at hop
    obtain ⟨rfl, rfl, rfl, rfl⟩ := hop
    exact lv_l2i hx hb hd rfl (kk rfl rfl)
  · next x r =>
    simp only [Option.some.injEq, Prod.mk.injEq] at hop
    obtain ⟨rfl, rfl, rfl, rfl⟩ := hop
    exact lv_i2c hx hb hd rfl (kk rfl rfl)
  · next x r =>
    simp only [Option.some.injEq, Prod.mk.injEq] at hop
    obtain ⟨rfl, rfl, rfl, rfl⟩ := hop
    exact lv_dup hx hb hd rfl (kk rfl rfl)
  · next x r =>
    simp only [Option.some.injEq, Prod.mk.injEq] at hop
    obtain ⟨rfl, rfl, rfl, rfl⟩ := hop
    exact lv_dup hx hb hd rfl (kk rfl rfl)
  · next x y r =>
    simp only [Option.some.injEq, Prod.mk.injEq] at hop
    obtain ⟨rfl, rfl, rfl, rfl⟩ := hop
    exact lv_dup2_11 hx hb hd rfl rfl (kk rfl rfl)
  · next x r =>
    simp only [Option.some.injEq, Prod.mk.injEq] at hop
    obtain ⟨rfl, rfl, rfl, rfl⟩ := hop
    exact lv_pop hx hb hd rfl (kk rfl rfl)
  · next off st =>
    simp only [Option.some.injEq, Prod.mk.injEq] at hop
    obtain ⟨rfl, rfl, rfl, rfl⟩ := hop
    exact lv_goto hx hb hd (m_jmp_ok hok) (kk rfl rfl)
  · next cnd off x r =>
    simp only [Option.some.injEq, Prod.mk.injEq] at hop
    obtain ⟨rfl, rfl, rfl, rfl⟩ := hop
    have kk := kk rfl rfl
    cases cnd <;> simp only [m_if] at kk
    · exact lv_if_eq hx hb hd (m_jmp_ok hok) (fun q => by rw [if_pos q] at kk; exact kk) (fun q => by rw [if_neg q] at kk; exact kk)
    · exact lv_if_ne hx hb hd (m_jmp_ok hok) (fun q => by rw [if_neg q] at kk; exact kk) (fun q => by rw [if_pos q] at kk; exact kk)
    · exact lv_if_lt hx hb hd (m_jmp_ok hok) (fun q => by rw [if_pos q] at kk; exact kk) (fun q => by rw [if_neg q] at kk; exact kk)
    · exact lv_if_ge hx hb hd (m_jmp_ok hok) (fun q => by rw [if_pos q] at kk; exact kk) (fun q => by rw [if_neg q] at kk; exact kk)
    · exact lv_if_gt hx hb hd (m_jmp_ok hok) (fun q => by rw [if_pos q] at kk; exact kk) (fun q => by rw [if_neg q] at kk; exact kk)
    · exact lv_if_le hx hb hd (m_jmp_ok hok) (fun q => by rw [if_pos q] at kk; exact kk) (fun q => by rw [if_neg q] at kk; exact kk)
  · next cnd off y x r =>
    simp only [Option.some.injEq, Prod.mk.injEq] at hop
    obtain ⟨rfl, rfl, rfl, rfl⟩ := hop
    have kk := kk rfl rfl
    cases cnd <;> simp only [m_if] at kk
    · exact lv_icmp_eq hx hb hd (m_jmp_ok hok) (fun q => by rw [if_pos q] at kk; exact kk) (fun q => by rw [if_neg q] at kk; exact kk)
    · exact lv_icmp_ne hx hb hd (m_jmp_ok hok) (fun q => by rw [if_neg q] at kk; exact kk) (fun q => by rw [if_pos q] at kk; exact kk)
    · exact lv_icmp_lt hx hb hd (m_jmp_ok hok) (fun q => by rw [if_pos q] at kk; exact kk) (fun q => by rw [if_neg q] at kk; exact kk)
    · exact lv_icmp_ge hx hb hd (m_jmp_ok hok) (fun q => by rw [if_pos q] at kk; exact kk) (fun q => by rw [if_neg q] at kk; exact kk)
    · exact lv_icmp_gt hx hb hd (m_jmp_ok hok) (fun q => by rw [if_pos q] at kk; exact kk) (fun q => by rw [if_neg q] at kk; exact kk)
    · exact lv_icmp_le hx hb hd (m_jmp_ok hok) (fun q => by rw [if_pos q] at kk; exact kk) (fun q => by rw [if_neg q] at kk; exact kk)
  · next off r =>
    simp only [Option.some.injEq, Prod.mk.injEq] at hop
    obtain ⟨rfl, rfl, rfl, rfl⟩ := hop
    exact lv_ifnullN hx hb hd (m_jmp_ok hok) (kk rfl rfl)
  · next off x r =>
    simp only [Option.some.injEq, Prod.mk.injEq] at hop
    obtain ⟨rfl, rfl, rfl, rfl⟩ := hop
    exact lv_ifnull hx hb hd (kk rfl rfl)
  · next off r =>
    simp only [Option.some.injEq, Prod.mk.injEq] at hop
    obtain ⟨rfl, rfl, rfl, rfl⟩ := hop
    exact lv_ifnonnullN hx hb hd (kk rfl rfl)
  · next off x r =>
    simp only [Option.some.injEq, Prod.mk.injEq] at hop
    obtain ⟨rfl, rfl, rfl, rfl⟩ := hop
    exact lv_ifnonnull hx hb hd (m_jmp_ok hok) (kk rfl rfl)
  · next d lo hi offs x r =>
    simp only [m_okI, Bool.and_eq_true, List.all_eq_true] at hok
    split at hop
    · next hq =>
      simp only [Option.some.injEq, Prod.mk.injEq] at hop
      obtain ⟨rfl, rfl, rfl, rfl⟩ := hop
      exact lv_tableOut hx hb hd hq (m_jmp_ok hok.1) (kk rfl rfl)
    · next hq =>
      split at hop
      · next o ho =>
        simp only [Option.some.injEq, Prod.mk.injEq] at hop
        obtain ⟨rfl, rfl, rfl, rfl⟩ := hop
        exact lv_tableIn hx hb hd (fun z => hq (Or.inl z)) (fun z => hq (Or.inr z)) (by rw [← Array.getElem?_toList]; exact ho) (m_jmp_ok (hok.2 o (List.mem_of_getElem? ho))) (kk rfl rfl)
      · cases hop
  · cases hop
end MS2
end
section
/-! rows that write, with what they say of the heap's size -/
section MR
variable {p : Program} {l : Launch} {e : Env} {R : Room} {s : State} {m : MethodId} {args : Array Value} {below : List Frame} {meth : Method} {c : Code} {H : Heap} {locs : List Loc} {cells slots : Nat} {Q : State → Prop}
variable {cc : ByteArray} {pc : Nat} {lsA : Array Slot} {rest : List Value} {D : va_G} {cl : List vw_C} {tys : List (ClassId × FieldType)} {ws : va_W} {A : Nat → Prop} {a : Nat}
theorem m_row_put (hx : p.tables.exec = Jvm.exec) (hb : c.code = cc) {own C : String} {T : u_T} {n ci index k : Nat} (hts : ∀ w ∈ u_ws C T n, w.before args s = true) (tyk : Nat → FieldType) (hty : ∀ k, k < n → parseFieldDescriptor (T k).2.2.1 = some (tyk k)) (hnm : ∀ a, a < n → ∀ b, b < n → a ≠ b → (T a).2.1 ≠ (T b).2.1) (hown : s.vm.findClass own = some m.cls) (hK : va_K D cl tys s) (hP : va_P D cl ws H) (hD : va_D A ws) (hS : va_S A s.heap H locs) {q0 : Nat} {fs : List Value} (he : ws[q0]? = some (a, .inr (ci, fs))) (hc : cl[ci]? = some (C, T, n)) (hk : k < n) (hlink : (Cond.fieldLink own index (T k).1 (T k).2.1 (T k).2.2.1).before args s = true)
    (hfin : (T k).2.2.2 = false ∨ ((T k).2.2.2 = true ∧ meth.name = "<init>" ∧ (T k).1 = own)) {v : Value} (hn : narrow (tyk k) v = v) (hfit : fits (tyk k) v = true) (hl : k < fs.length) (hdg : decode cc pc = .ok (.putfield index, 3))
    (kk : ∀ (H1 : Heap) (locs1 : List Loc), H1.size = H.size → va_P D cl (ws.set q0 (a, .inr (ci, fs.set k v))) H1 → va_S A s.heap H1 locs1 → W p l e R s m args below meth c H1 locs1 cells slots Q (F0 m (pc + 3) lsA rest)) : W p l e R s m args below meth c H locs cells slots Q (F0 m pc lsA (v :: .ref a :: rest)) := by
  have hap := va_apart (own := own) hts (fun w h => h) tyk hty hnm hK hc
  obtain ⟨r, h1, cell, q1, q2, q3, q4⟩ := hP q0 _ he
  cases Option.some.inj (h1.symm.trans hc)
  obtain ⟨hSl, hfc, kC, hkC, hkind⟩ := hK.1 ci _ hc
  obtain ⟨cf, kf, fi, f, hi, hsl⟩ := hSl k hk
  have hlay := hts _ (u_in_lay hk)
  have hst := (u_facts hfc hkC (u_lays hts (fun w h => h) hk) hi).1
  have fin : ∀ H' : Heap, H'[a]? = some (cell.setSlot f.slot v) → H'.size = H.size → (∀ q, q ≠ a → H'[q]? = H[q]?) → W p l e R s m args below meth c H' (locs ++ [⟨a, f.slot⟩]) cells slots Q { F0 m pc lsA (v :: .ref a :: rest) with pc := pc + 3, stack := rest } := by
    intro H' e1 e2 e3
    rw [hsl] at e1 ⊢
    exact kk H' _ e2 (hP.set hD he ⟨_, hc, t_OB.to (V := updV (vp_V fs) k v) ⟨_, e1, q2, q3, t_set q4 hap hk v⟩ (fun j _ => vp_updV_set hl v j)⟩ e3) (hS.put e2 e3 (hD.2 q0 _ he))
  have hslot : f.slot < cell.slots.size := by rw [hsl]; exact k2_hasslot (q4 k hk)
  rcases hfin with hf | ⟨hf, hin, hdecl⟩
  · unfold u_lay at hlay
    rw [if_neg (by rw [hf]; decide)] at hlay
    exact W.putK hx hb (f := f) ⟨hown, hlink, ⟨_, _, _, hi⟩, hst⟩ (by rw [q2]; exact u_store hfc hkC hkind hlay hi (hty k hk) hn hfit) q1 q3 hslot rfl rfl hdg fin
  · unfold u_lay at hlay
    rw [if_pos hf] at hlay
    have hcf : m.cls = cf := by
      obtain ⟨_, _, c', _, _, _, -, -, hf', -, -, -, hown2, -⟩ := Cond.laysFinal_spec hlay
      have e1 : c' = cf := by have := hi.symm.trans hf'; simp at this; exact this.1.symm
      rw [hdecl] at hown2
      rw [← e1]; exact Option.some.inj (hown.symm.trans hown2)
    exact W.putFinK hx hb hown hlink hi hst hcf hin (by rw [q2]; exact u_fits hfc hkC hkind (Or.inr hlay) hi (hty k hk) hn hfit) q1 q3 hslot rfl rfl hdg fin
theorem m_row_iast (hx : p.tables.exec = Jvm.exec) (hb : c.code = cc) (hK : va_K D cl tys s) (hP : va_P D cl ws H) (hD : va_D A ws) (hS : va_S A s.heap H locs) {q0 t0 : Nat} {cA : ClassId} {n : Nat} {f : Nat → Int32} (ha : ws[q0]? = some (a, .inl (cA, n, .inl f))) (ht : tys[t0]? = some (cA, .int)) {i x : Int32} (hin : vp_in i n) (hdg : decode cc pc = .ok (.iastore, 1))
    (kk : ∀ (H1 : Heap) (locs1 : List Loc), H1.size = H.size → va_P D cl (ws.set q0 (a, .inl (cA, n, .inl (upd f i.toNatClampNeg x)))) H1 → va_S A s.heap H1 locs1 → W p l e R s m args below meth c H1 locs1 cells slots Q (F0 m (pc + 1) lsA rest)) : W p l e R s m args below meth c H locs cells slots Q (F0 m pc lsA (.int x :: .int i :: .ref a :: rest)) := by
  refine W.iast hx hb (hP q0 _ ha) ((hK.2 t0 _ ht).1 n (fun j => .int (f j))) (fun q => by cases q) (by show ¬ (i < 0 ∨ (arrV _ _ _).slots.size ≤ _); rw [arrV_size]; exact hin) rfl rfl hdg fun H1 e1 z oq => ?_
  refine kk H1 _ z (hP.set hD ha ?_ oq) (hS.put z oq (hD.2 q0 _ ha))
  show H1[a]? = some (vp_cell _ _)
  rw [e1, vp_cell_i, vp_cell_i, arrV_store]
  congr 2
  funext q
  by_cases hq : q = i.toNatClampNeg
  · subst hq; simp [updV, upd]
  · simp [updV, upd, hq]
theorem m_row_last (hx : p.tables.exec = Jvm.exec) (hb : c.code = cc) (hK : va_K D cl tys s) (hP : va_P D cl ws H) (hD : va_D A ws) (hS : va_S A s.heap H locs) {q0 t0 : Nat} {cA : ClassId} {n : Nat} {f : Nat → Int64} (ha : ws[q0]? = some (a, .inl (cA, n, .inr (.inl f)))) (ht : tys[t0]? = some (cA, .long)) {i : Int32} {x : Int64} (hin : vp_in i n) (hdg : decode cc pc = .ok (.lastore, 1))
    (kk : ∀ (H1 : Heap) (locs1 : List Loc), H1.size = H.size → va_P D cl (ws.set q0 (a, .inl (cA, n, .inr (.inl (vp_updL f i.toNatClampNeg x))))) H1 → va_S A s.heap H1 locs1 → W p l e R s m args below meth c H1 locs1 cells slots Q (F0 m (pc + 1) lsA rest)) : W p l e R s m args below meth c H locs cells slots Q (F0 m pc lsA (.long x :: .int i :: .ref a :: rest)) := by
  refine W.last hx hb (hP q0 _ ha) ((hK.2 t0 _ ht).1 n (fun j => .long (f j))) (fun q => by cases q) (by show ¬ (i < 0 ∨ (arrV _ _ _).slots.size ≤ _); rw [arrV_size]; exact hin) rfl rfl hdg fun H1 e1 z oq => ?_
  refine kk H1 _ z (hP.set hD ha ?_ oq) (hS.put z oq (hD.2 q0 _ ha))
  show H1[a]? = some (vp_cell _ _)
  rw [e1, vp_cell_l, vp_cell_l, arrV_store]
  congr 2
  funext q
  by_cases hq : q = i.toNatClampNeg
  · subst hq; simp [updV, vp_updL]
  · simp [updV, vp_updL, hq]
theorem m_row_aast (hx : p.tables.exec = Jvm.exec) (hb : c.code = cc) (hK : va_K D cl tys s) (hP : va_P D cl ws H) (hD : va_D A ws) (hS : va_S A s.heap H locs) {q0 t0 qk ci : Nat} {cA : ClassId} {r : vw_C} {n v : Nat} {vs : List Value} {f : Nat → Option Nat} (ha : ws[q0]? = some (a, .inl (cA, n, .inr (.inr (.inr (.inr f)))))) (ht : tys[t0]? = some (cA, .object r.1)) (hv : ws[qk]? = some (v, .inr (ci, vs))) (hc : cl[ci]? = some r) {i : Int32} (hin : vp_in i n) (hdg : decode cc pc = .ok (.aastore, 1))
    (kk : ∀ (H1 : Heap) (locs1 : List Loc), H1.size = H.size → va_P D cl (ws.set q0 (a, .inl (cA, n, .inr (.inr (.inr (.inr (va_up f i.toNatClampNeg (some v)))))))) H1 → va_S A s.heap H1 locs1 → W p l e R s m args below meth c H1 locs1 cells slots Q (F0 m (pc + 1) lsA rest)) : W p l e R s m args below meth c H locs cells slots Q (F0 m pc lsA (.ref v :: .int i :: .ref a :: rest)) := by
  have hlt : i.toNatClampNeg < n := Nat.not_le.mp fun q => hin (Or.inr q)
  have h0 : ¬ i < 0 := fun q => hin (Or.inl q)
  obtain ⟨r', hr', cellV, g1, g2, g3, -⟩ := hP qk _ hv
  have hcls := (hK.1 ci r hc).2
  obtain ⟨kA, comp, k1, k2, k3, -⟩ := (hK.2 t0 _ ht).2
  have hcomp : comp = D.1 ci := Option.some.inj (k3.symm.trans hcls.1)
  subst hcomp
  obtain ⟨kC, hkC, -⟩ := hcls.2
  refine W.aast hx hb (hP q0 _ ha) (fun q h => by cases h) (fun h => by cases h) k1 k2 rfl hkC ⟨h0, by show _ < (arrV _ _ _).slots.size; rw [arrV_size]; exact hlt⟩ g1 (fun q h => by rw [g3] at h; cases h) (by rw [g2]; exact hkC) (by rw [g2]; exact va_assign hcls) rfl rfl hdg fun H1 e1 z oq => ?_
  refine kk H1 _ z (hP.set hD ha ?_ oq) (hS.put z oq (hD.2 q0 _ ha))
  show H1[a]? = some (vp_cell _ _)
  rw [e1, vp_cell_q, vp_cell_q, arrV_store]
  congr 2
  funext q
  by_cases hq : q = i.toNatClampNeg
  · subst hq; simp [updV, va_up, va_rf]
  · simp [updV, va_up, hq]
theorem m_row_new (hx : p.tables.exec = Jvm.exec) (hb : c.code = cc) {own C : String} {T : u_T} {n ci index : Nat} (hts : ∀ w ∈ u_ws C T n, w.before args s = true) (tyk : Nat → FieldType) (hty : ∀ k, k < n → parseFieldDescriptor (T k).2.2.1 = some (tyk k)) (hown : s.vm.findClass own = some m.cls) (hcl : (Cond.classLink own index C).before args s = true) (hinst : (Cond.instantiable C n).before args s = true) (hini : (Cond.initialized C).before args s = true)
    (hK : va_K D cl tys s) (hP : va_P D cl ws H) (hS : va_S A s.heap H locs) (hc : cl[ci]? = some (C, T, n)) {fs : List Value} (hfs : ∀ j, j < n → defaultValue (tyk j) = vp_V fs j) (hcells : cells + 1 ≤ R.cells) (hslots : slots + n ≤ R.slots) (hdg : decode cc pc = .ok (.new index, 3)) {h : Nat} (hh : H.size = h)
    (kk : ∀ (H1 : Heap), H1.size = h + 1 → va_P D cl (ws ++ [(h, .inr (ci, fs))]) H1 → va_S A s.heap H1 locs → W p l e R s m args below meth c H1 locs (cells + 1) (slots + n) Q (F0 m (pc + 3) lsA (.ref h :: rest))) : W p l e R s m args below meth c H locs cells slots Q (F0 m pc lsA rest) := by
  have hKn := hK.1 ci _ hc
  refine W.newcK hx hb hown hcl hinst hini rfl hdg hcells hslots hKn.2.1 hh fun H1 kC hkC e1 z1 o1 => ?_
  subst hh
  have hk : ∀ (k : Nat) (x : Nat × va_E), ws[k]? = some x → H1[x.1]? = H[x.1]? := fun k x hx => o1 x.1 ((hP k x hx).lt)
  refine kk H1 z1 ((hP.kept hk).app (fun k x hx => ?_)) ⟨Nat.le_trans hS.1 (by omega), fun x h1 h2 => (o1 x (Nat.lt_of_lt_of_le h1 hS.1)).trans (hS.2.1 x h1 h2), hS.2.2⟩
  have hz : k < 1 := (List.getElem?_eq_some_iff.mp hx).1
  rw [show k = 0 by omega] at hx
  cases hx
  exact ⟨_, hc, (u_born tyk hts (fun w h => h) hKn hkC e1 hty).to hfs⟩
/-- a new row of numbers -/
theorem m_row_newa (hx : p.tables.exec = Jvm.exec) (hb : c.code = cc) {atype : ArrayType} (harr : (Cond.arrayClass (newarray.typeOf atype)).before args s = true) {ty : FieldType} (hty : newarray.typeOf atype = ty) (hK : va_K D cl tys s) {t0 : Nat} {cA : ClassId} (ht : tys[t0]? = some (cA, ty)) (hprim : va_RA s cA ty → s.vm.findClass ("[" ++ ty.toString) = some cA) (hP : va_P D cl ws H) (hS : va_S A s.heap H locs)
    {n : Int32} {N' : Nat} {a0 : vp_A} (ha : ∀ cA : ClassId, vp_cell cA a0 = arrV cA N' (fun _ => defaultValue ty)) (hn : ¬ n < 0) (hN : n.toNatClampNeg = N') (hbytes : N' * componentBytes ty ≤ 536870912) (hcells : cells + 1 ≤ R.cells) (hslots : slots + N' ≤ R.slots) (hdg : decode cc pc = .ok (.newarray atype, 2)) {h : Nat} (hh : H.size = h)
    (kk : ∀ (H1 : Heap), H1.size = h + 1 → va_P D cl (ws ++ [(h, .inl (cA, a0))]) H1 → va_S A s.heap H1 locs →
      W p l e R s m args below meth c H1 locs (cells + 1) (slots + N') Q (F0 m (pc + 2) lsA (.ref h :: rest))) : W p l e R s m args below meth c H locs cells slots Q (F0 m pc lsA (.int n :: rest)) := by
  subst hty
  refine va_newaK hx hb harr rfl hdg rfl hn hN hbytes hcells hslots hh fun H1 cA' e1 z1 o1 hAr hNm => ?_
  have hcA : cA' = cA := Option.some.inj (hNm.symm.trans (hprim (hK.2 t0 _ ht).2))
  subst hcA
  subst hh
  have hk : ∀ (k : Nat) (x : Nat × va_E), ws[k]? = some x → H1[x.1]? = H[x.1]? := fun k x hx => o1 x.1 ((hP k x hx).lt)
  refine kk H1 z1 ((hP.kept hk).app (fun k x hx => ?_)) ⟨Nat.le_trans hS.1 (by omega), fun x h1 h2 => (o1 x (Nat.lt_of_lt_of_le h1 hS.1)).trans (hS.2.1 x h1 h2), hS.2.2⟩
  have hz : k < 1 := (List.getElem?_eq_some_iff.mp hx).1
  rw [show k = 0 by omega] at hx
  cases hx
  show H1[H.size]? = some (vp_cell _ _)
  rw [ha]
  exact e1
/-- a new row of references -/
theorem m_row_anew (hx : p.tables.exec = Jvm.exec) (hb : c.code = cc) {own C : String} {index : Nat} (hown : s.vm.findClass own = some m.cls) (hclink : (Cond.classLink own index C).before args s = true) (hover : va_AO C s) (hK : va_K D cl tys s) {t0 : Nat} {cA : ClassId} (ht : tys[t0]? = some (cA, .object C)) (hP : va_P D cl ws H) (hS : va_S A s.heap H locs)
    {n : Int32} {N' : Nat} (hn : ¬ n < 0) (hN : n.toNatClampNeg = N') (hbytes : N' * 4 ≤ 536870912) (hcells : cells + 1 ≤ R.cells) (hslots : slots + N' ≤ R.slots) (hdg : decode cc pc = .ok (.anewarray index, 3)) {h : Nat} (hh : H.size = h)
    (kk : ∀ (H1 : Heap), H1.size = h + 1 → va_P D cl (ws ++ [(h, .inl (cA, N', .inr (.inr (.inr (.inr (fun _ => none))))))]) H1 → va_S A s.heap H1 locs →
      W p l e R s m args below meth c H1 locs (cells + 1) (slots + N') Q (F0 m (pc + 3) lsA (.ref h :: rest))) : W p l e R s m args below meth c H locs cells slots Q (F0 m pc lsA (.int n :: rest)) := by
  subst hN
  subst hh
  refine W.anew hx hb hown hclink (va_AO.use hover) rfl hdg rfl hn hbytes hcells hslots fun cA' kA comp f1 f2 f3 f4 => ?_
  have hcA : cA' = cA := by
    obtain ⟨kA2, comp2, -, -, -, g4⟩ := (hK.2 t0 _ ht).2
    exact Option.some.inj (f1.symm.trans g4)
  subst hcA
  generalize hH1 : H.push ({ cls := cA', slots := Array.replicate n.toNatClampNeg .null, vm := .none } : Cell) = H1
  have z1 : H1.size = H.size + 1 := by rw [← hH1, Array.size_push]
  have e1 : H1[H.size]? = some (arrV cA' n.toNatClampNeg (fun _ => .null)) := by rw [← hH1, Array.getElem?_push_size, ← arrV_new]
  have o1 : ∀ q : Nat, q < H.size → H1[q]? = H[q]? := fun q hq => by rw [← hH1, Array.getElem?_push, if_neg (Nat.ne_of_lt hq)]
  have hk : ∀ (k : Nat) (x : Nat × va_E), ws[k]? = some x → H1[x.1]? = H[x.1]? := fun k x hx => o1 x.1 ((hP k x hx).lt)
  refine kk H1 z1 ((hP.kept hk).app (fun k x hx => ?_)) ⟨Nat.le_trans hS.1 (by omega), fun x h1 h2 => (o1 x (Nat.lt_of_lt_of_le h1 hS.1)).trans (hS.2.1 x h1 h2), hS.2.2⟩
  have hz : k < 1 := (List.getElem?_eq_some_iff.mp hx).1
  rw [show k = 0 by omega] at hx
  cases hx
  show H1[H.size]? = some (vp_cell _ _)
  rw [vp_cell_q]
  exact e1
end MR
end
section
theorem m_obj1 : Cond.instanceMethod Lib.objectInit ∈ m_TW := m_TW_in (i := 153) (by decide +kernel) (by decide +kernel)
theorem m_obj2 : Cond.code Lib.objectInit ⟨#[0xb1]⟩ 1 none ∈ m_TW := m_TW_in (i := 154) (by decide +kernel) (by decide +kernel)
theorem m_ma0 : Cond.initialized "java/lang/Math" ∈ m_TW := List.mem_filter.mpr ⟨by decide +kernel, by decide +kernel⟩
theorem m_ma1 : Cond.static Lib.Math.abs.name ∈ m_TW := List.mem_filter.mpr ⟨by decide +kernel, by decide +kernel⟩
theorem m_ma2 : Cond.code Lib.Math.abs.name Lib.Math.abs.code 1 (some .int) ∈ m_TW := List.mem_filter.mpr ⟨by decide +kernel, by decide +kernel⟩
theorem m_mx1 : Cond.static Lib.Math.max.name ∈ m_TW := List.mem_filter.mpr ⟨by decide +kernel, by decide +kernel⟩
theorem m_mx2 : Cond.code Lib.Math.max.name Lib.Math.max.code 2 (some .int) ∈ m_TW := List.mem_filter.mpr ⟨by decide +kernel, by decide +kernel⟩
theorem m_mn1 : Cond.static Lib.Math.min.name ∈ m_TW := List.mem_filter.mpr ⟨by decide +kernel, by decide +kernel⟩
theorem m_mn2 : Cond.code Lib.Math.min.name Lib.Math.min.code 2 (some .int) ∈ m_TW := List.mem_filter.mpr ⟨by decide +kernel, by decide +kernel⟩
theorem m_ml1 : Cond.static Lib.MathLoose.max_long.x ∈ m_TW := List.mem_filter.mpr ⟨by decide +kernel, by decide +kernel⟩
theorem m_ml2 : Cond.code Lib.MathLoose.max_long.x Lib.MathLoose.max_long.code 4 (some .long) ∈ m_TW := List.mem_filter.mpr ⟨by decide +kernel, by decide +kernel⟩
theorem m_fv_df (ad : Nat → Nat) (k : Nat) (ty : FieldType) : m_fv ad (fun _ => 0) (fun _ => 0) k (defaultValue ty) = defaultValue ty := by cases ty <;> rfl
theorem m_ws_D {dA ad : Nat → Nat} {base : Nat} {h : mH} (hlen : h.1.length ≤ 1000000) (had : ∀ j, j < 1000000 → ad j = base + j) : va_D (m_A base) (m_ws dA ad h) := by
  have key : ∀ (i : Nat) (p : Nat × va_E), (m_ws dA ad h)[i]? = some p → p.1 = base + i ∧ i < h.1.length := by
    intro i p hp
    have hl : i < h.1.length := by have := (List.getElem?_eq_some_iff.mp hp).1; rwa [m_ws_len] at this
    have h1 := m_ws_get (dA := dA) (ad := ad) (List.getElem?_eq_getElem hl)
    rw [h1] at hp
    cases hp
    exact ⟨had i (by omega), hl⟩
  refine ⟨fun i j p q hp hq e => ?_, fun k q hk => ?_⟩
  · have h1 := key i p hp
    have h2 := key j q hq
    omega
  · have h1 := key k q hk
    show base ≤ q.1
    omega
theorem m_key1 (q : Nat) (h : 1000100 ≤ q ∧ q < 1000127) : ∃ j : Nat, q = 1000100 + j ∧ j < 27 := ⟨q - 1000100, by omega, by omega⟩
theorem m_key2 (q : Nat) (h : 1000200 ≤ q ∧ q < 1000227) : ∃ j : Nat, q = 1000200 + j ∧ j < 27 := ⟨q - 1000200, by omega, by omega⟩
theorem m_ok_newarr {own nm : String} {tab : List mM} {pc : Nat} {t : ArrayType} {aux : List Int} (h : m_okI own nm tab pc (.newarray t) aux = true) : ∃ pl, m_w pl (.arrayClass (newarray.typeOf t)) = true := by
  rcases aux with _ | ⟨a, _ | ⟨b, r⟩⟩
  · simp [m_okI] at h
  · exact ⟨a, h⟩
  · simp [m_okI] at h
theorem m_ok_anew {own nm : String} {tab : List mM} {pc : Nat} {i : Nat} {aux : List Int} (h : m_okI own nm tab pc (.anewarray i) aux = true) : ∃ pl, m_w pl (.classLink own i "IsHeIn$Moment") = true := by
  rcases aux with _ | ⟨a, _ | ⟨b, r⟩⟩
  · simp [m_okI] at h
  · exact ⟨a, h⟩
  · simp [m_okI] at h
section MS3
variable {p : Program} {l : Launch} {e : Env} {R : Room} {s : State} {m : MethodId} {args : Array Value} {below : List Frame} {meth : Method} {c : Code} {H : Heap} {locs : List Loc} {cells slots : Nat} {Q : State → Prop}
variable {cc : ByteArray} {pc pc' nL : Nat} {lsA : Array Slot} {ls ls' : List (Option Value)} {st st' : List Value} {h h' : mH} {ins : Instr} {aux : List Int} {own nm : String} {tab : List mM}
variable {ad : Nat → Nat} {base : Nat} {vF : Value} {dC : Nat → ClassId} {dI : Nat → Nat → Nat} {dA : Nat → Nat} {N : Nat} {xs : Nat → Int32}
set_option maxHeartbeats 8000000 in
theorem m_op3_ok (hop : m_op3 N xs ins aux pc ls st h = some (pc', ls', st', h')) (hd : decode cc pc = .ok (ins, m_len ins aux)) (hok : m_okI own nm tab pc ins aux = true) (hx : p.tables.exec = Jvm.exec) (hb : c.code = cc) (hlsz : lsA.size = c.maxLocals) (hown : s.vm.findClass own = some m.cls) (hts : ∀ w ∈ m_TW, w.before args s = true) (hF : m_Fx ad base vF dC dI dA N xs s s.heap) (hnm : nm = "<init>" → meth.name = "<init>")
    (hP : va_P (dC, dI) m_cl (m_ws dA ad h) H) (hsz : H.size = base + h.1.length) (hlen : h.1.length ≤ 1000000) (hS : va_S (m_A base) s.heap H locs) (hcells : cells + (h'.1.length - h.1.length) ≤ R.cells) (hslots : slots + (m_sl h'.1 - m_sl h.1) ≤ R.slots) (hroom : 1 ≤ R.frames ∧ 30 ≤ R.locals)
    (kk : ∀ (H' : Heap) (locs' : List Loc) (cells' slots' : Nat), ls' = ls → va_P (dC, dI) m_cl (m_ws dA ad h') H' → H'.size = base + h'.1.length → h'.1.length ≤ 1000000 → va_S (m_A base) s.heap H' locs' → cells' + h.1.length = cells + h'.1.length → slots' + m_sl h.1 = slots + m_sl h'.1 → W p l e R s m args below meth c H' locs' cells' slots' Q (F0 m pc' lsA (st'.map (m_v ad vF)))) :
    W p l e R s m args below meth c H locs cells slots Q (F0 m pc lsA (st.map (m_v ad vF))) := by
  obtain ⟨hK, hNw, hAO, ⟨hX, hXb, hXB⟩, hT5, hZ0, hZ1, hZ2, hStr, hR, hbase, hvF, had⟩ := id hF
  have hD := m_ws_D (dA := dA) hlen had
  have hbA : ¬ (m_A base) (ad 1000000) := fun q => by have : base ≤ ad 1000000 := q; omega
  have same : h' = h → ls' = ls → W p l e R s m args below meth c H locs cells slots Q (F0 m pc' lsA (st'.map (m_v ad vF))) := by
    intro e1 e2
    subst e1
    exact kk H locs cells slots e2 hP hsz hlen hS rfl rfl
  have clts : ∀ {ci : Nat} {C : String} {T : u_T} {n : Nat}, m_cl[ci]? = some (C, T, n) → ∀ w ∈ u_ws C T n, w ∈ m_TW := fun hq w hw => List.mem_filter.mpr ((m_clok hq).1 w hw)
  unfold m_op3 at hop
  split at hop
  · -- getfield
    next idx i r =>
    split at hop
    · next ci k pl a1 a2 =>
      split at hop
      · next v hv =>
        simp only [Option.some.injEq, Prod.mk.injEq] at hop
        obtain ⟨rfl, rfl, rfl, rfl⟩ := hop
        simp only [m_okI] at hok
        split at hok
        · next C T n hcl =>
          simp only [Bool.and_eq_true, decide_eq_true_eq] at hok
          unfold m_gf at hv
          split at hv
          · next c' fs hs =>
            split at hv
            · next hcc =>
              subst hcc
              have go : ∀ z : Value, fs[k.toNat]? = some z → m_fv ad (h.2.1 i) (h.2.2 i) k.toNat z = m_v ad vF v → W p l e R s m args below meth c H locs cells slots Q (F0 m pc lsA ((Value.ref i :: r).map (m_v ad vF))) := by
                intro z hz hzz
                refine va_get (D := (dC, dI)) (v := m_v ad vF v) hx hb hts (clts hcl) hown hK hP i (m_ws_get hs) hcl k.toNat hok.1 (hts _ (m_w_in hok.2)) (fun _ q => q) ?_ hd (same rfl rfl)
                rw [m_fs_get, hz]
                simp only [Option.map_some, Nat.zero_add, hzz]
              split at hv
              · next z hz => cases hv; exact go _ hz rfl
              · next z hz => cases hv; exact go _ hz rfl
              · next z hz => cases hv; exact go _ hz rfl
              · next hz => cases hv; exact go _ hz rfl
              · cases hv
            · cases hv
          · cases hv
        · cases hok
      · cases hop
    · next k pl =>
      split at hop
      · next hi =>
        obtain ⟨j, rfl, hj⟩ := m_key1 i hi
        obtain ⟨g1, g2, g3, g4⟩ := hStr j hj
        split at hop
        · next hk0 =>
          simp only [Option.some.injEq, Prod.mk.injEq] at hop
          obtain ⟨rfl, rfl, rfl, rfl⟩ := hop
          subst hk0
          simp only [m_okI, if_true] at hok
          refine vk_getf hx hb g3 hS hown (hts _ (m_w_in hok)) (fun _ q => q) hd ?_
          have h9 := same rfl rfl
          have e9 : ad (1000200 + j) = ad (1000100 + j + 100) := congrArg ad (show (1000200 + j : Nat) = 1000100 + j + 100 by omega)
          rw [e9]
          exact h9
        · next hk0 =>
          simp only [Option.some.injEq, Prod.mk.injEq] at hop
          obtain ⟨rfl, rfl, rfl, rfl⟩ := hop
          simp only [m_okI, if_neg hk0] at hok
          exact vk_getf hx hb g2 hS hown (hts _ (m_w_in hok)) (fun _ q => q) hd (same rfl rfl)
      · cases hop
    · cases hop
  · -- putfield
    next idx v i r =>
    split at hop
    · next ci k pl kd fin =>
      split at hop
      · next h2 hv =>
        simp only [Option.some.injEq, Prod.mk.injEq] at hop
        obtain ⟨rfl, rfl, rfl, rfl⟩ := hop
        simp only [m_okI] at hok
        split at hok
        · next C T n hcl =>
          simp only [Bool.and_eq_true, decide_eq_true_eq] at hok
          obtain ⟨⟨⟨hk, hw⟩, hfin⟩, hkd⟩ := hok
          have hfin' : (T k.toNat).2.2.2 = false ∨ ((T k.toNat).2.2.2 = true ∧ meth.name = "<init>" ∧ (T k.toNat).1 = own) := by
            split at hfin
            · simp only [Bool.and_eq_true, decide_eq_true_eq] at hfin
              exact Or.inr ⟨hfin.1.1, hnm hfin.1.2, hfin.2⟩
            · exact Or.inl (of_decide_eq_true hfin)
          obtain ⟨-, hty, hnms⟩ := m_clok hcl
          have hlayT : ∀ w ∈ u_ws C T n, w.before args s = true := fun w hw => hts w (clts hcl w hw)
          unfold m_pf at hv
          split at hv
          · next c' fs hs =>
            split at hv
            · next hcc =>
              subst hcc
              have hil : i < h.1.length := (List.getElem?_eq_some_iff.mp hs).1
              split at hv
              · -- an int
                next z x hz =>
                have hkl := (List.getElem?_eq_some_iff.mp hz).1
                have go : ∀ {h3 : mH}, h3 = (h.1, mu h.2.1 i k.toNat x, h.2.2) → h3 = h2 → narrow (m_ty ci.toNat k.toNat) (.int x) = .int x → fits (m_ty ci.toNat k.toNat) (.int x) = true → W p l e R s m args below meth c H locs cells slots Q (F0 m pc lsA ((Value.int x :: Value.ref i :: r).map (m_v ad vF))) := by
                  intro h3 e3 e4 hn hf
                  subst e4
                  refine m_row_put (D := (dC, dI)) hx hb hlayT (m_ty ci.toNat) hty hnms hown hK hP hD hS (m_ws_get hs) hcl hk (hts _ (m_w_in hw)) hfin' (v := .int x) hn hf (by rw [m_fs_len]; exact hkl) hd fun H1 locs1 z1 hP1 hS1 => ?_
                  have hset : (m_ws dA ad h).set i (ad i, .inr (ci.toNat, (m_fs ad (h.2.1 i) (h.2.2 i) 0 fs).set k.toNat (.int x))) = m_ws dA ad h3 := by
                    rw [e3]
                    refine m_ws_set (fun j hj => ?_) ?_ hil
                    · cases h.1[j]? with
                      | none => rfl
                      | some w => exact congrArg some (m_cell_eq w (m_mu_ne _ _ _ hj) rfl)
                    · show (h.1[i]?).map _ = _
                      rw [hs]
                      simp only [Option.map_some, m_cell, m_mu_self]
                      rw [m_fs_seti hz (di' := upd (h.2.1 i) k.toNat x) (fun j => rfl)]
                  rw [hset] at hP1
                  exact kk H1 locs1 cells slots rfl hP1 (by rw [z1, hsz, e3]) (by rw [e3]; exact hlen) hS1 (by rw [e3]) (by rw [e3])
                split at hv
                · next hkd0 =>
                  subst hkd0
                  cases hv
                  simp only [if_true] at hkd
                  have hty0 := of_decide_eq_true hkd
                  exact go rfl rfl (by rw [hty0]; rfl) (by rw [hty0]; rfl)
                · split at hv
                  · next hkd0 hkd3 =>
                    subst hkd3
                    split at hv
                    · next hx01 =>
                      cases hv
                      have hty0 : m_ty ci.toNat k.toNat = .boolean := by
                        have h9 := hkd
                        simp only [show ¬ (3 : Int) = 0 by decide, show ¬ (3 : Int) = 1 by decide, if_false, if_true] at h9
                        exact of_decide_eq_true h9
                      refine go rfl rfl ?_ ?_
                      · rw [hty0]
                        rcases hx01 with rfl | rfl <;> decide
                      · rw [hty0]
                        rcases hx01 with rfl | rfl <;> decide
                    · cases hv
                  · cases hv
              · -- a long
                next z x hz =>
                have hkl := (List.getElem?_eq_some_iff.mp hz).1
                split at hv
                · next hkd1 =>
                  subst hkd1
                  cases hv
                  have hty0 : m_ty ci.toNat k.toNat = .long := by
                    have h9 := hkd
                    simp only [show ¬ (1 : Int) = 0 by decide, if_false, if_true] at h9
                    exact of_decide_eq_true h9
                  refine m_row_put (D := (dC, dI)) hx hb hlayT (m_ty ci.toNat) hty hnms hown hK hP hD hS (m_ws_get hs) hcl hk (hts _ (m_w_in hw)) hfin' (v := .long x) (by rw [hty0]; rfl) (by rw [hty0]; rfl) (by rw [m_fs_len]; exact hkl) hd fun H1 locs1 z1 hP1 hS1 => ?_
                  have hset : (m_ws dA ad h).set i (ad i, .inr (ci.toNat, (m_fs ad (h.2.1 i) (h.2.2 i) 0 fs).set k.toNat (.long x))) = m_ws dA ad (h.1, h.2.1, muL h.2.2 i k.toNat x) := by
                    refine m_ws_set (fun j hj => ?_) ?_ hil
                    · cases h.1[j]? with
                      | none => rfl
                      | some w => exact congrArg some (m_cell_eq w rfl (m_muL_ne _ _ _ hj))
                    · show (h.1[i]?).map _ = _
                      rw [hs]
                      simp only [Option.map_some, m_cell, m_muL_self]
                      rw [m_fs_setl hz (li' := vp_updL (h.2.2 i) k.toNat x) (fun j => rfl)]
                  rw [hset] at hP1
                  exact kk H1 locs1 cells slots rfl hP1 (by rw [z1, hsz]) hlen hS1 rfl rfl
                · cases hv
              · -- a reference
                next j hz =>
                have hkl := (List.getElem?_eq_some_iff.mp hz).1
                split at hv
                · next hkd2 =>
                  subst hkd2
                  cases hv
                  have hty0 : m_isRefTy (m_ty ci.toNat k.toNat) = true := by
                    have h9 := hkd
                    simp only [show ¬ (2 : Int) = 0 by decide, show ¬ (2 : Int) = 1 by decide, show ¬ (2 : Int) = 3 by decide, if_false] at h9
                    exact h9
                  have hnf : narrow (m_ty ci.toNat k.toNat) (.ref (ad j)) = .ref (ad j) ∧ fits (m_ty ci.toNat k.toNat) (.ref (ad j)) = true := by
                    cases hz2 : m_ty ci.toNat k.toNat <;> rw [hz2] at hty0 <;> first | exact ⟨rfl, rfl⟩ | cases hty0
                  refine m_row_put (D := (dC, dI)) hx hb hlayT (m_ty ci.toNat) hty hnms hown hK hP hD hS (m_ws_get hs) hcl hk (hts _ (m_w_in hw)) hfin' (v := .ref (ad j)) hnf.1 hnf.2 (by rw [m_fs_len]; exact hkl) hd fun H1 locs1 z1 hP1 hS1 => ?_
                  have hset : (m_ws dA ad h).set i (ad i, .inr (ci.toNat, (m_fs ad (h.2.1 i) (h.2.2 i) 0 fs).set k.toNat (.ref (ad j)))) = m_ws dA ad (h.1.set i (.inr (ci.toNat, fs.set k.toNat (.ref j))), h.2.1, h.2.2) := by
                    refine m_ws_set (fun q hq => ?_) ?_ hil
                    · show (h.1[q]?).map _ = ((h.1.set i _)[q]?).map _
                      rw [List.getElem?_set_ne (Ne.symm hq)]
                    · show ((h.1.set i _)[i]?).map _ = _
                      rw [List.getElem?_set_self hil]
                      simp only [Option.map_some, m_cell]
                      rw [m_fs_setr hz]
                  rw [hset] at hP1
                  refine kk H1 locs1 cells slots rfl hP1 (by rw [z1, hsz, List.length_set]) (by rw [List.length_set]; exact hlen) hS1 (by rw [List.length_set]) ?_
                  rw [m_sl_set hs (by simp [m_sl1])]
                · cases hv
              · cases hv
            · cases hv
          · cases hv
        · cases hok
      · cases hop
    · cases hop
  · -- getstatic
    next idx st =>
    split at hop
    · next pl =>
      simp only [Option.some.injEq, Prod.mk.injEq] at hop
      obtain ⟨rfl, rfl, rfl, rfl⟩ := hop
      exact va_getsN hx hb hZ0 hS hown (va_Nw.use rfl (hNw _ (m_nw_in hok))) (fun _ q => q) hd (same rfl rfl)
    · next pl =>
      simp only [Option.some.injEq, Prod.mk.injEq] at hop
      obtain ⟨rfl, rfl, rfl, rfl⟩ := hop
      exact va_gets hx hb hZ1 hS hown (hts _ (m_w_in hok)) (fun _ q => q) hd (same rfl rfl)
    · next pl =>
      simp only [Option.some.injEq, Prod.mk.injEq] at hop
      obtain ⟨rfl, rfl, rfl, rfl⟩ := hop
      exact va_gets hx hb hZ2 hS hown (hts _ (m_w_in hok)) (fun _ q => q) hd (same rfl rfl)
    · cases hop
  · -- arraylength
    next j r =>
    split at hop
    · next n hn =>
      simp only [Option.some.injEq, Prod.mk.injEq] at hop
      obtain ⟨rfl, rfl, rfl, rfl⟩ := hop
      unfold m_al at hn
      split at hn
      · next k n' q hs =>
        split at hn
        · next hk3 =>
          cases hn
          have ht : ∃ ty, (m_tys dA)[k]? = some (dA k, ty) := by
            match k, hk3 with
            | 0, _ => exact ⟨_, rfl⟩
            | 1, _ => exact ⟨_, rfl⟩
            | 2, _ => exact ⟨_, rfl⟩
          obtain ⟨ty, ht⟩ := ht
          exact va_alen hx hb hK hP j k (m_ws_get hs) ht rfl hd (same rfl rfl)
        · cases hn
      · cases hn
      · split at hn
        · next hj =>
          have hn := Option.some.inj hn
          subst hn
          subst hj
          exact va_slen hx hb hX hXb hbA hS hd (same rfl rfl)
        · split at hn
          · next hj =>
            have hn := Option.some.inj hn
            subst hn
            subst hj
            exact va_tlen hx hb hT5 hS rfl hd (same rfl rfl)
          · split at hn
            · next hj =>
              have hn := Option.some.inj hn
              subst hn
              obtain ⟨k, rfl, hk27⟩ := m_key2 j hj
              obtain ⟨g1, g2, g3, g4⟩ := hStr k hk27
              have e9 : (1000200 + k : Nat) - 1000200 = k := by omega
              have h9 := same rfl rfl
              rw [e9] at h9
              exact va_tlen hx hb g4 hS rfl hd h9
            · cases hn
    · cases hop
  · -- iaload
    next i j r =>
    split at hop
    · next x hxx =>
      simp only [Option.some.injEq, Prod.mk.injEq] at hop
      obtain ⟨rfl, rfl, rfl, rfl⟩ := hop
      unfold m_ia at hxx
      split at hxx
      · next n q hs =>
        split at hxx
        · cases hxx
        · next hin =>
          cases hxx
          exact va_iald hx hb hK hP j 0 (m_ws_get hs) rfl hin hd (same rfl rfl)
      · cases hxx
      · split at hxx
        · next hj =>
          subst hj
          split at hxx
          · cases hxx
          · next hin =>
            cases hxx
            exact va_sld hx hb hX hXb hbA hS hin hd (same rfl rfl)
        · split at hxx
          · next hj =>
            subst hj
            split at hxx
            · cases hxx
            · next hin =>
              cases hxx
              exact va_ti hx hb hT5 hS hin rfl hd (same rfl rfl)
          · cases hxx
    · cases hop
  · -- laload
    next i j r =>
    split at hop
    · next n q hs =>
      split at hop
      · cases hop
      · next hin =>
        simp only [Option.some.injEq, Prod.mk.injEq] at hop
        obtain ⟨rfl, rfl, rfl, rfl⟩ := hop
        exact va_lald hx hb hK hP j 1 (m_ws_get hs) rfl hin hd (same rfl rfl)
    · cases hop
  · -- aaload
    next i j r =>
    split at hop
    · next n q hs =>
      split at hop
      · cases hop
      · next hin =>
        simp only [Option.some.injEq, Prod.mk.injEq] at hop
        obtain ⟨rfl, rfl, rfl, rfl⟩ := hop
        refine va_aldq hx hb hK hP j 2 (m_ws_get hs) rfl hin hd ?_
        have h9 := same rfl rfl
        simp only [List.map_cons] at h9
        cases hz : q.getD i.toNatClampNeg none with
        | none => rw [hz] at h9; simpa [va_rf, m_v] using h9
        | some a => rw [hz] at h9; simpa [va_rf, m_v] using h9
    · cases hop
  · -- baload
    next i j r =>
    split at hop
    · next hj =>
      obtain ⟨k, rfl, hk27⟩ := m_key2 j hj
      obtain ⟨g1, g2, g3, g4⟩ := hStr k hk27
      have e9 : (1000200 + k : Nat) - 1000200 = k := by omega
      rw [e9] at hop
      split at hop
      · cases hop
      · next hin =>
        simp only [Option.some.injEq, Prod.mk.injEq] at hop
        obtain ⟨rfl, rfl, rfl, rfl⟩ := hop
        exact va_tb hx hb g4 hS hin rfl hd (same rfl rfl)
    · cases hop
  · -- iastore
    next x i j r =>
    split at hop
    · next n q hs =>
      split at hop
      · cases hop
      · next hin =>
        simp only [Option.some.injEq, Prod.mk.injEq] at hop
        obtain ⟨rfl, rfl, rfl, rfl⟩ := hop
        have hil : j < h.1.length := (List.getElem?_eq_some_iff.mp hs).1
        refine m_row_iast (t0 := 0) hx hb hK hP hD hS (m_ws_get hs) rfl hin hd fun H1 locs1 z1 hP1 hS1 => ?_
        have hset : (m_ws dA ad h).set j (ad j, .inl (dA 0, n, .inl (upd (h.2.1 j) i.toNatClampNeg x))) = m_ws dA ad (h.1, mu h.2.1 j i.toNatClampNeg x, h.2.2) := by
          refine m_ws_set (fun q hq => ?_) ?_ hil
          · cases h.1[q]? with
            | none => rfl
            | some w => exact congrArg some (m_cell_eq w (m_mu_ne _ _ _ hq) rfl)
          · show (h.1[j]?).map _ = _
            rw [hs]
            simp only [Option.map_some, m_cell, m_mu_self]
        rw [hset] at hP1
        exact kk H1 locs1 cells slots rfl hP1 (by rw [z1, hsz]) hlen hS1 rfl rfl
    · cases hop
  · -- lastore
    next x i j r =>
    split at hop
    · next n q hs =>
      split at hop
      · cases hop
      · next hin =>
        simp only [Option.some.injEq, Prod.mk.injEq] at hop
        obtain ⟨rfl, rfl, rfl, rfl⟩ := hop
        have hil : j < h.1.length := (List.getElem?_eq_some_iff.mp hs).1
        refine m_row_last (t0 := 1) hx hb hK hP hD hS (m_ws_get hs) rfl hin hd fun H1 locs1 z1 hP1 hS1 => ?_
        have hset : (m_ws dA ad h).set j (ad j, .inl (dA 1, n, .inr (.inl (vp_updL (h.2.2 j) i.toNatClampNeg x)))) = m_ws dA ad (h.1, h.2.1, muL h.2.2 j i.toNatClampNeg x) := by
          refine m_ws_set (fun q hq => ?_) ?_ hil
          · cases h.1[q]? with
            | none => rfl
            | some w => exact congrArg some (m_cell_eq w rfl (m_muL_ne _ _ _ hq))
          · show (h.1[j]?).map _ = _
            rw [hs]
            simp only [Option.map_some, m_cell, m_muL_self]
        rw [hset] at hP1
        exact kk H1 locs1 cells slots rfl hP1 (by rw [z1, hsz]) hlen hS1 rfl rfl
    · cases hop
  · -- aastore
    next a i j r =>
    split at hop
    · next n q vs hs hs2 =>
      split at hop
      · cases hop
      · next hin =>
        split at hop
        · next hql =>
          simp only [Option.some.injEq, Prod.mk.injEq] at hop
          obtain ⟨rfl, rfl, rfl, rfl⟩ := hop
          have hil : j < h.1.length := (List.getElem?_eq_some_iff.mp hs).1
          refine m_row_aast (t0 := 2) (ci := 4) (r := (RX4, TX4, 4)) hx hb hK hP hD hS (m_ws_get hs) rfl (m_ws_get hs2) rfl hin hd fun H1 locs1 z1 hP1 hS1 => ?_
          have hset : (m_ws dA ad h).set j (ad j, .inl (dA 2, n, .inr (.inr (.inr (.inr (va_up (fun j => (q.getD j none).map ad) i.toNatClampNeg (some (ad a)))))))) = m_ws dA ad (h.1.set j (.inl (2, n, q.set i.toNatClampNeg (some a))), h.2.1, h.2.2) := by
            refine m_ws_set (fun z hz => ?_) ?_ hil
            · show (h.1[z]?).map _ = ((h.1.set j _)[z]?).map _
              rw [List.getElem?_set_ne (Ne.symm hz)]
            · show ((h.1.set j _)[j]?).map _ = _
              rw [List.getElem?_set_self hil]
              simp only [Option.map_some, m_cell, Option.some.injEq, Sum.inl.injEq, Prod.mk.injEq, true_and, Sum.inr.injEq]
              funext z
              by_cases hz : z = i.toNatClampNeg
              · subst hz
                simp [va_up, List.getD_eq_getElem?_getD, List.getElem?_set_self hql]
              · simp [va_up, hz, List.getD_eq_getElem?_getD, List.getElem?_set_ne (Ne.symm hz)]
          rw [hset] at hP1
          refine kk H1 locs1 cells slots rfl hP1 (by rw [z1, hsz, List.length_set]) (by rw [List.length_set]; exact hlen) hS1 (by rw [List.length_set]) ?_
          rw [m_sl_set hs (by simp [m_sl1])]
        · cases hop
    · cases hop
  · -- new
    next idx st =>
    split at hop
    · next ci p1 p2 p3 =>
      split at hop
      · next hlt =>
        simp only [Option.some.injEq, Prod.mk.injEq] at hop
        obtain ⟨rfl, rfl, rfl, rfl⟩ := hop
        simp only [m_okI] at hok
        split at hok
        · next C T n hcl =>
          simp only [Bool.and_eq_true] at hok
          obtain ⟨⟨w1, w2⟩, w3⟩ := hok
          obtain ⟨-, hty, hnms⟩ := m_clok hcl
          have hc13 : ci.toNat < 13 := (List.getElem?_eq_some_iff.mp hcl).1
          have hdf := m_dfok ci.toNat hc13
          rw [hcl] at hdf
          obtain ⟨hdl, hdv⟩ := hdf
          have hsl1 : m_sl (h.1 ++ [.inr (ci.toNat, m_df ci.toNat)]) = m_sl h.1 + n := by rw [m_sl_app]; simp [m_sl, m_sl1, hdl]
          simp only [List.length_append, List.length_singleton, hsl1] at hcells hslots
          refine m_row_new (D := (dC, dI)) hx hb (fun w hw => hts w (clts hcl w hw)) (m_ty ci.toNat) hty hown (hts _ (m_w_in w1)) (hts _ (m_w_in w2)) (hts _ (m_w_in w3)) hK hP hS hcl (fs := m_fs ad (fun _ => 0) (fun _ => 0) 0 (m_df ci.toNat)) ?_ (by omega) (by omega) hd hsz fun H1 z1 hP1 hS1 => ?_
          · intro j hj
            simp only [vp_V, List.getD_eq_getElem?_getD, m_fs_get, hdv j hj, Option.map_some, Option.getD_some, m_fv_df]
          · have hpush := m_ws_push (dA := dA) (ad := ad) (h := h) (s := .inr (ci.toNat, m_df ci.toNat)) (D := mz h.2.1 h.1.length) (L := mzL h.2.2 h.1.length) (fun i hi => by simp [mz, show ¬ i = h.1.length by omega]) (fun i hi => by simp [mzL, show ¬ i = h.1.length by omega])
            have hz0 : mz h.2.1 h.1.length h.1.length = fun _ => 0 := by simp [mz]
            have hz1 : mzL h.2.2 h.1.length h.1.length = fun _ => 0 := by simp [mzL]
            simp only [m_cell, hz0, hz1, had _ hlt] at hpush
            rw [hpush] at hP1
            have h9 := kk H1 locs (cells + 1) (slots + n) rfl hP1 (by simp only [List.length_append, List.length_singleton]; omega) (by simp only [List.length_append, List.length_singleton]; omega) hS1 (by simp only [List.length_append, List.length_singleton]; omega) (by rw [hsl1]; omega)
            simpa [m_v, had _ hlt] using h9
        · cases hok
      · cases hop
    · cases hop
  · -- newarray
    next t n r =>
    split at hop
    · cases hop
    · next hn =>
      split at hop
      · next hlt =>
        split at hop
        · -- ints
          simp only [Option.some.injEq, Prod.mk.injEq] at hop
          obtain ⟨rfl, rfl, rfl, rfl⟩ := hop
          obtain ⟨pl, hw⟩ := m_ok_newarr hok
          have hsl1 : m_sl (h.1 ++ [.inl (0, n.toNatClampNeg, [])]) = m_sl h.1 + n.toNatClampNeg := by rw [m_sl_app]; simp [m_sl, m_sl1]
          simp only [List.length_append, List.length_singleton, hsl1] at hcells hslots
          have hn0 : ¬ n < 0 := fun q => hn (Or.inl q)
          have hn1 : n.toNatClampNeg < 1000000 := Nat.not_le.mp fun q => hn (Or.inr q)
          refine m_row_newa (t0 := 0) (cA := dA 0) (ty := .int) (a0 := (n.toNatClampNeg, .inl (fun _ => 0))) (N' := n.toNatClampNeg) hx hb (hts _ (m_w_in hw)) rfl hK rfl (fun q => q) hP hS (fun _ => rfl) hn0 rfl (by show n.toNatClampNeg * 4 ≤ _; omega) (by omega) (by omega) hd hsz fun H1 z1 hP1 hS1 => ?_
          have hpush := m_ws_push (dA := dA) (ad := ad) (h := h) (s := .inl (0, n.toNatClampNeg, [])) (D := mz h.2.1 h.1.length) (L := mzL h.2.2 h.1.length) (fun i hi => by simp [mz, show ¬ i = h.1.length by omega]) (fun i hi => by simp [mzL, show ¬ i = h.1.length by omega])
          have hz0 : mz h.2.1 h.1.length h.1.length = fun _ => 0 := by simp [mz]
          simp only [m_cell, hz0, had _ hlt] at hpush
          rw [hpush] at hP1
          have h9 := kk H1 locs (cells + 1) (slots + n.toNatClampNeg) rfl hP1 (by simp only [List.length_append, List.length_singleton]; omega) (by simp only [List.length_append, List.length_singleton]; omega) hS1 (by simp only [List.length_append, List.length_singleton]; omega) (by rw [hsl1]; omega)
          simpa [m_v, had _ hlt] using h9
        · -- longs
          simp only [Option.some.injEq, Prod.mk.injEq] at hop
          obtain ⟨rfl, rfl, rfl, rfl⟩ := hop
          obtain ⟨pl, hw⟩ := m_ok_newarr hok
          have hsl1 : m_sl (h.1 ++ [.inl (1, n.toNatClampNeg, [])]) = m_sl h.1 + n.toNatClampNeg := by rw [m_sl_app]; simp [m_sl, m_sl1]
          simp only [List.length_append, List.length_singleton, hsl1] at hcells hslots
          have hn0 : ¬ n < 0 := fun q => hn (Or.inl q)
          have hn1 : n.toNatClampNeg < 1000000 := Nat.not_le.mp fun q => hn (Or.inr q)
          refine m_row_newa (t0 := 1) (cA := dA 1) (ty := .long) (a0 := (n.toNatClampNeg, .inr (.inl (fun _ => 0)))) (N' := n.toNatClampNeg) hx hb (hts _ (m_w_in hw)) rfl hK rfl (fun q => q) hP hS (fun _ => rfl) hn0 rfl (by show n.toNatClampNeg * 8 ≤ _; omega) (by omega) (by omega) hd hsz fun H1 z1 hP1 hS1 => ?_
          have hpush := m_ws_push (dA := dA) (ad := ad) (h := h) (s := .inl (1, n.toNatClampNeg, [])) (D := mz h.2.1 h.1.length) (L := mzL h.2.2 h.1.length) (fun i hi => by simp [mz, show ¬ i = h.1.length by omega]) (fun i hi => by simp [mzL, show ¬ i = h.1.length by omega])
          have hz0 : mzL h.2.2 h.1.length h.1.length = fun _ => 0 := by simp [mzL]
          simp only [m_cell, hz0, had _ hlt] at hpush
          rw [hpush] at hP1
          have h9 := kk H1 locs (cells + 1) (slots + n.toNatClampNeg) rfl hP1 (by simp only [List.length_append, List.length_singleton]; omega) (by simp only [List.length_append, List.length_singleton]; omega) hS1 (by simp only [List.length_append, List.length_singleton]; omega) (by rw [hsl1]; omega)
          simpa [m_v, had _ hlt] using h9
        · cases hop
      · cases hop
  · -- anewarray
    next idx n r =>
    split at hop
    · cases hop
    · next hn =>
      split at hop
      · next hlt =>
        simp only [Option.some.injEq, Prod.mk.injEq] at hop
        obtain ⟨rfl, rfl, rfl, rfl⟩ := hop
        obtain ⟨pl, hw⟩ := m_ok_anew hok
        have hsl1 : m_sl (h.1 ++ [.inl (2, n.toNatClampNeg, List.replicate n.toNatClampNeg none)]) = m_sl h.1 + n.toNatClampNeg := by rw [m_sl_app]; simp [m_sl, m_sl1]
        simp only [List.length_append, List.length_singleton, hsl1] at hcells hslots
        have hn0 : ¬ n < 0 := fun q => hn (Or.inl q)
        have hn1 : n.toNatClampNeg < 1000000 := Nat.not_le.mp fun q => hn (Or.inr q)
        refine m_row_anew (t0 := 2) (cA := dA 2) hx hb hown (hts _ (m_w_in hw)) hAO hK rfl hP hS hn0 rfl (by omega) (by omega) (by omega) hd hsz fun H1 z1 hP1 hS1 => ?_
        have hpush := m_ws_push (dA := dA) (ad := ad) (h := h) (s := .inl (2, n.toNatClampNeg, List.replicate n.toNatClampNeg none)) (D := mz h.2.1 h.1.length) (L := mzL h.2.2 h.1.length) (fun i hi => by simp [mz, show ¬ i = h.1.length by omega]) (fun i hi => by simp [mzL, show ¬ i = h.1.length by omega])
        have hz0 : (fun j => ((List.replicate n.toNatClampNeg (none : Option Nat)).getD j none).map ad) = fun _ => none := by
          funext j
          simp only [List.getD_eq_getElem?_getD, List.getElem?_replicate]
          split <;> rfl
        simp only [m_cell, hz0, had _ hlt] at hpush
        rw [hpush] at hP1
        have h9 := kk H1 locs (cells + 1) (slots + n.toNatClampNeg) rfl hP1 (by simp only [List.length_append, List.length_singleton]; omega) (by simp only [List.length_append, List.length_singleton]; omega) hS1 (by simp only [List.length_append, List.length_singleton]; omega) (by rw [hsl1]; omega)
        simpa [m_v, had _ hlt] using h9
      · cases hop
  · -- Object.<init>
    next idx j r =>
    split at hop
    · next pl a1 =>
      split at hop
      · next hcat =>
        simp only [Option.some.injEq, Prod.mk.injEq] at hop
        obtain ⟨rfl, rfl, rfl, rfl⟩ := hop
        have hcat' : ((r.map (m_v ad vF)).map fun v => v.category).sum ≤ 8 := by
          rw [List.map_map]
          rw [show ((fun v : Value => v.category) ∘ m_v ad vF) = (fun v => v.category) from funext fun w => m_v_cat hvF w]
          exact hcat
        have hok' : m_w pl (.methodLink own idx Lib.objectInit) = true := by simpa [m_okI] using hok
        refine W.objInit hx hb hown (hts _ (m_w_in hok')) (hts _ m_obj1) (hts _ m_obj2) rfl hlsz rfl hd hroom.1 ?_ (same rfl rfl)
        show 2 * 0 + _ + 12 ≤ _
        omega
      · cases hop
    · cases hop
  · -- Math
    next st idx =>
    have catm : ∀ r : List Value, ((r.map (m_v ad vF)).map fun v => v.category).sum = (r.map fun v => v.category).sum := by
      intro r
      rw [List.map_map, show ((fun v : Value => v.category) ∘ m_v ad vF) = (fun v => v.category) from funext fun w => m_v_cat hvF w]
    unfold m_math at hop
    split at hop
    · next a1 pl x r =>
      split at hop
      · next hcat =>
        simp only [Option.some.injEq, Prod.mk.injEq] at hop
        obtain ⟨rfl, rfl, rfl, rfl⟩ := hop
        have hw : m_w pl (.methodLink own idx Lib.Math.abs.name) = true := hok
        exact va_mabs hx hb hlsz.symm hown (hts _ (m_w_in hw)) (hts _ m_ma1) (hts _ m_ma0) (hts _ m_ma2) hroom.1 (by rw [catm]; omega) (by omega) (by omega) hd (same rfl rfl)
      · cases hop
    · next a1 pl y x r =>
      split at hop
      · next hcat =>
        simp only [Option.some.injEq, Prod.mk.injEq] at hop
        obtain ⟨rfl, rfl, rfl, rfl⟩ := hop
        have hw : m_w pl (.methodLink own idx Lib.Math.max.name) = true := hok
        exact va_mmax hx hb hlsz.symm hown (hts _ (m_w_in hw)) (hts _ m_mx1) (hts _ m_ma0) (hts _ m_mx2) hroom.1 (by rw [catm]; omega) (by omega) (by omega) hd (same rfl rfl)
      · cases hop
    · next a1 pl y x r =>
      split at hop
      · next hcat =>
        simp only [Option.some.injEq, Prod.mk.injEq] at hop
        obtain ⟨rfl, rfl, rfl, rfl⟩ := hop
        have hw : m_w pl (.methodLink own idx ⟨"java/lang/Math", "max", "(JJ)J"⟩) = true := hok
        exact va_mmax_long hx hb hlsz.symm hown (hts _ (m_w_in hw)) (hts _ m_ml1) (hts _ m_ma0) (hts _ m_ml2) hroom.1 (by rw [catm]; omega) (by omega) (by omega) hd (same rfl rfl)
      · cases hop
    · next a1 pl y x r =>
      split at hop
      · next hcat =>
        simp only [Option.some.injEq, Prod.mk.injEq] at hop
        obtain ⟨rfl, rfl, rfl, rfl⟩ := hop
        have hw : m_w pl (.methodLink own idx Lib.Math.min.name) = true := hok
        exact va_mmin hx hb hlsz.symm hown (hts _ (m_w_in hw)) (hts _ m_mn1) (hts _ m_ma0) (hts _ m_mn2) hroom.1 (by rw [catm]; omega) (by omega) (by omega) hd (same rfl rfl)
      · cases hop
    · cases hop
  · cases hop
end MS3
end
section
/-! the fixed things go along; calls; what a run of the small machine says of a real method -/
theorem m_nest_on : ∀ w ∈ m_nest, w.onTables = true := by decide +kernel
theorem m_nest_warm {s U : State} (hW : s.WarmedH U.vm) : ∀ w ∈ m_nest, va_Nw w s → va_Nw w U := by
  intro w hw h
  simp only [m_nest, List.mem_cons, List.not_mem_nil, or_false] at hw
  rcases hw with rfl | rfl | rfl | rfl | rfl | rfl | rfl | rfl | rfl | rfl | rfl | rfl | rfl | rfl | rfl <;> first | exact va_Nw.warmM hW h | exact va_Nw.warmF hW h
section FX
variable {ad : Nat → Nat} {base : Nat} {vF : Value} {dC : Nat → ClassId} {dI : Nat → Nat → Nat} {dA : Nat → Nat} {N : Nat} {xs : Nat → Int32}
theorem m_Fx_to {u U : State} {H H1 : Heap} (h : m_Fx ad base vF dC dI dA N xs u H) (hvm : u.vm.Alike U.vm) (hN : ∀ w ∈ m_nest, va_Nw w u → va_Nw w U) (hR : ∀ (o : String) (k : Nat) (t : String) (a : Nat), vk_R o k t a u → vk_R o k t a U) (hz : H.size ≤ H1.size) (hq : ∀ a : Nat, a < H.size → ¬ m_A base a → H1[a]? = H[a]?) : m_Fx ad base vF dC dI dA N xs U H1 := by
  obtain ⟨hK, hNw, hAO, ⟨hX, hXb, hXB⟩, hT5, hZ0, hZ1, hZ2, hStr, hRR, hbase, hvF, had⟩ := h
  have hbA : ¬ (m_A base) (ad 1000000) := fun q => by have : base ≤ ad 1000000 := q; omega
  refine ⟨hK.moved hvm, fun w hw => hN w hw (hNw w hw), hAO.moved hvm, ⟨(hX.moved hvm).kept (hq _ hXb hbA), by omega, hXB⟩, (hT5.moved hvm).kept hq, (hZ0.moved hvm).kept hq, (hZ1.moved hvm).kept hq, (hZ2.moved hvm).kept hq, fun k hk => ?_, fun k hk q hq2 => hR _ _ _ _ (hRR k hk q hq2), by omega, hvF, had⟩
  obtain ⟨g1, g2, g3, g4⟩ := hStr k hk
  exact ⟨(va_O.moved hvm g1).kept hq, (va_OF.moved hvm g2).kept hq, (va_OF.moved hvm g3).kept hq, (g4.moved hvm).kept hq⟩
theorem m_Fx_enter {s U : State} {H : Heap} {locs : List Loc} (h : m_Fx ad base vF dC dI dA N xs s s.heap) (hS : va_S (m_A base) s.heap H locs) (hU : U.heap = H) (hW : s.WarmedH U.vm) : m_Fx ad base vF dC dI dA N xs U U.heap := by
  rw [hU]
  exact m_Fx_to h hW.alike (m_nest_warm hW) (fun o k t a q => q.warm hW) hS.1 hS.2.1
theorem m_Fx_blind {U : State} {g : JFrame} {mk : MethodId} {a : Array Value} (h : m_Fx ad base vF dC dI dA N xs U U.heap) : m_Fx ad base vF dC dI dA N xs (U.calling g mk a) (U.calling g mk a).heap :=
  m_Fx_to (u := U) (U := U.calling g mk a) (H := U.heap) (H1 := (U.calling g mk a).heap) h (Vm.Alike.refl U.vm) (fun w hw q => va_Nw.same (u := U) (U := U.calling g mk a) (m_nest_on w hw) rfl q) (fun o k t b q => vk_R.same (u := U) (U := U.calling g mk a) rfl q) (Nat.le_refl _) (fun _ _ _ => rfl)
end FX
theorem m_op_mono {N : Nat} {xs : Nat → Int32} {ins : Instr} {aux : List Int} {pc pc' : Nat} {ls ls' : List (Option Value)} {st st' : List Value} {h h' : mH} (hop : m_op N xs ins aux pc ls st h = some (pc', ls', st', h')) : h.1.length ≤ h'.1.length ∧ m_sl h.1 ≤ m_sl h'.1 := by
  have e1 : ∀ {f : mF}, m_op1 ins aux pc ls st h = some f → f.2.2.2 = h := by
    intro f hf
    unfold m_op1 at hf
    repeat' (split at hf)
    all_goals first | (cases hf; rfl) | cases hf
  have e2 : ∀ {f : mF}, m_op2 ins pc ls st h = some f → f.2.2.2 = h := by
    intro f hf
    unfold m_op2 at hf
    repeat' (split at hf)
    all_goals first | (cases hf; rfl) | cases hf
  unfold m_op at hop
  split at hop
  · next f hf =>
    cases hop
    have := e1 hf
    simp only at this
    subst this
    exact ⟨Nat.le_refl _, Nat.le_refl _⟩
  · split at hop
    · next f hf =>
      cases hop
      have := e2 hf
      simp only at this
      subst this
      exact ⟨Nat.le_refl _, Nat.le_refl _⟩
    · have pf : ∀ {i c k : Nat} {kd : Int} {v : Value} {h2 : mH}, m_pf h i c k kd v = some h2 → h.1.length ≤ h2.1.length ∧ m_sl h.1 ≤ m_sl h2.1 := by
        intro i c k kd v h2 hv
        unfold m_pf at hv
        split at hv
        · next c' fs hs =>
          split at hv
          · split at hv
            · split at hv
              · cases hv; exact ⟨Nat.le_refl _, Nat.le_refl _⟩
              · split at hv
                · split at hv
                  · cases hv; exact ⟨Nat.le_refl _, Nat.le_refl _⟩
                  · cases hv
                · cases hv
            · split at hv
              · cases hv; exact ⟨Nat.le_refl _, Nat.le_refl _⟩
              · cases hv
            · split at hv
              · cases hv
                refine ⟨by simp, ?_⟩
                show m_sl h.1 ≤ m_sl (h.1.set i _)
                rw [m_sl_set hs (by simp [m_sl1])]
                exact Nat.le_refl _
              · cases hv
            · cases hv
          · cases hv
        · cases hv
      unfold m_op3 at hop
      split at hop
      all_goals (try (cases hop; done))
      · repeat' (split at hop)
        all_goals first | (cases hop; exact ⟨Nat.le_refl _, Nat.le_refl _⟩) | (cases hop; done)
      · split at hop
        · split at hop
          · next h2 hv => cases hop; exact pf hv
          · cases hop
        · cases hop
      · repeat' (split at hop)
        all_goals first | (cases hop; exact ⟨Nat.le_refl _, Nat.le_refl _⟩) | (cases hop; done)
      · repeat' (split at hop)
        all_goals first | (cases hop; exact ⟨Nat.le_refl _, Nat.le_refl _⟩) | (cases hop; done)
      · repeat' (split at hop)
        all_goals first | (cases hop; exact ⟨Nat.le_refl _, Nat.le_refl _⟩) | (cases hop; done)
      · repeat' (split at hop)
        all_goals first | (cases hop; exact ⟨Nat.le_refl _, Nat.le_refl _⟩) | (cases hop; done)
      · split at hop
        · split at hop
          · cases hop
          · cases hop; exact ⟨Nat.le_refl _, Nat.le_refl _⟩
        · cases hop
      · repeat' (split at hop)
        all_goals first | (cases hop; exact ⟨Nat.le_refl _, Nat.le_refl _⟩) | (cases hop; done)
      · repeat' (split at hop)
        all_goals first | (cases hop; exact ⟨Nat.le_refl _, Nat.le_refl _⟩) | (cases hop; done)
      · repeat' (split at hop)
        all_goals first | (cases hop; exact ⟨Nat.le_refl _, Nat.le_refl _⟩) | (cases hop; done)
      · split at hop
        · split at hop
          · cases hop
          · split at hop
            · cases hop
              exact ⟨by simp, Nat.le_of_eq (m_sl_set (by assumption) (by simp [m_sl1])).symm⟩
            · cases hop
        · cases hop
      · split at hop
        · split at hop
          · cases hop
            refine ⟨by simp, ?_⟩
            show m_sl h.1 ≤ m_sl (h.1 ++ _)
            rw [m_sl_app]; omega
          · cases hop
        · cases hop
      · split at hop
        · cases hop
        · split at hop
          · split at hop
            · cases hop
              refine ⟨by simp, ?_⟩
              show m_sl h.1 ≤ m_sl (h.1 ++ _)
              rw [m_sl_app]; omega
            · cases hop
              refine ⟨by simp, ?_⟩
              show m_sl h.1 ≤ m_sl (h.1 ++ _)
              rw [m_sl_app]; omega
            · cases hop
          · cases hop
      · split at hop
        · cases hop
        · split at hop
          · cases hop
            refine ⟨by simp, ?_⟩
            show m_sl h.1 ≤ m_sl (h.1 ++ _)
            rw [m_sl_app]; omega
          · cases hop
      · repeat' (split at hop)
        all_goals first | (cases hop; exact ⟨Nat.le_refl _, Nat.le_refl _⟩) | (cases hop; done)
      · unfold m_math at hop
        repeat' (split at hop)
        all_goals first | (cases hop; exact ⟨Nat.le_refl _, Nat.le_refl _⟩) | (cases hop; done)
theorem m_run_mono (tab : List mM) (N : Nat) (xs : Nat → Int32) : ∀ (n d : Nat) (e : mM) (pc : Nat) (ls : List (Option Value)) (st : List Value) (h : mH) (rv : Option Value) (h' : mH), m_run tab N xs n d e pc ls st h = some (rv, h') → h.1.length ≤ h'.1.length ∧ m_sl h.1 ≤ m_sl h'.1 := by
  intro n
  induction n with
  | zero => intro d e pc ls st h rv h' hr; cases hr
  | succ n ih =>
    intro d e pc ls st h rv h' hr
    unfold m_run at hr
    split at hr
    · cases hr
    · next ins aux hat =>
      split at hr
      · split at hr
        · cases hr; exact ⟨Nat.le_refl _, Nat.le_refl _⟩
        · cases hr
      · split at hr
        · split at hr
          · cases hr
          · split at hr
            · split at hr
              · next v h1 h2 =>
                have a1 := ih _ _ _ _ _ _ _ _ h2
                have a2 := ih _ _ _ _ _ _ _ _ hr
                exact ⟨Nat.le_trans a1.1 a2.1, Nat.le_trans a1.2 a2.2⟩
              · cases hr
            · cases hr
        · split at hr
          · next pc1 ls1 st1 h1 h2 =>
            have a1 := m_op_mono h2
            have a2 := ih _ _ _ _ _ _ _ _ hr
            exact ⟨Nat.le_trans a1.1 a2.1, Nat.le_trans a1.2 a2.2⟩
          · cases hr
/-- the entry's locals -/
theorem m_en_len (ad : Nat → Nat) {vF : Value} (hv : vF.category = 1) : ∀ As : List Value, (lg_sl (As.map (m_v ad vF))).length = (m_en As).length := by
  intro As
  induction As with
  | nil => rfl
  | cons a r ih =>
    have hc := m_v_cat (ad := ad) hv a
    simp only [List.map_cons, lg_sl, List.flatMap_cons, List.length_append] at ih ⊢
    rw [ih, hc]
    cases a <;> simp [m_en, Value.category] <;> omega
theorem m_en_lv (ad : Nat → Nat) {vF : Value} (hv : vF.category = 1) : ∀ (As : List Value) (i j : Nat) (v : Value), (m_en As)[j]? = some (some v) → (i + j, m_v ad vF v) ∈ lv_args i (As.map (m_v ad vF)) := by
  intro As
  induction As with
  | nil => intro i j v h; simp [m_en] at h
  | cons a r ih =>
    intro i j v h
    have hc := m_v_cat (ad := ad) hv a
    simp only [List.map_cons, lv_args, hc]
    have two : (m_en (a :: r)) = some a :: none :: m_en r → a.category = 2 → (i + j, m_v ad vF v) ∈ (i, m_v ad vF a) :: lv_args (if a.category = 2 then i + 2 else i + 1) (r.map (m_v ad vF)) := by
      intro e hc2
      rw [e] at h
      rw [if_pos hc2]
      match j, h with
      | 0, h => simp at h; subst h; exact List.mem_cons_self
      | 1, h => simp at h
      | j + 2, h =>
        have := ih (i + 2) j v (by simpa using h)
        rw [show i + 2 + j = i + (j + 2) by omega] at this
        exact List.mem_cons_of_mem _ this
    have one : (m_en (a :: r)) = some a :: m_en r → ¬ a.category = 2 → (i + j, m_v ad vF v) ∈ (i, m_v ad vF a) :: lv_args (if a.category = 2 then i + 2 else i + 1) (r.map (m_v ad vF)) := by
      intro e hc2
      rw [e] at h
      rw [if_neg hc2]
      match j, h with
      | 0, h => simp at h; subst h; exact List.mem_cons_self
      | j + 1, h =>
        have := ih (i + 1) j v (by simpa using h)
        rw [show i + 1 + j = i + (j + 1) by omega] at this
        exact List.mem_cons_of_mem _ this
    cases a <;> first | exact one rfl (by simp [Value.category]) | exact two rfl rfl
end
section
/-! WHAT A RUN OF THE SMALL MACHINE SAYS: the real method, from any heap that holds the same, comes to the same end -/
theorem m_at_in {cd : List mI} {pc : Nat} {ins : Instr} {aux : List Int} (h : m_at cd pc = some (ins, aux)) : (pc, ins, aux) ∈ cd := by
  induction cd with
  | nil => cases h
  | cons a r ih =>
    obtain ⟨q, i, x⟩ := a
    simp only [m_at] at h
    split at h
    · next hq => cases h; subst hq; exact List.mem_cons_self
    · exact List.mem_cons_of_mem _ (ih h)
def m_wsy (y : mM) : List Cond := .code y.2.1 y.2.2.1 y.2.2.2.1 y.2.2.2.2.1 :: m_TW
theorem m_good {w : Cond} (h : w ∈ m_TW) : w ∈ m_TW ∧ ((w.onTables && w.keeps) = true ∨ ∃ ty, w = .arrayClass ty) := ⟨h, good_of_word (List.mem_filter.mp h).2⟩
theorem m_goodIn {ws : List Cond} (h : ∀ w ∈ ws, w ∈ m_TW) : GoodIn m_TW ws := fun w hw => m_good (h w hw)
def m_rm (d mc ms : Nat) : Room := { frames := d + 1, cells := mc, slots := ms, locals := 100 * d + 30 }
section MET
variable {ad : Nat → Nat} {base : Nat} {vF : Value} {dC : Nat → ClassId} {dI : Nat → Nat → Nat} {dA : Nat → Nat} {N : Nat} {xs : Nat → Int32} {tab : List mM}
/-- the world at a method's start .. -/
def m_Pw (ad : Nat → Nat) (base : Nat) (vF : Value) (dC : Nat → ClassId) (dI : Nat → Nat → Nat) (dA : Nat → Nat) (N : Nat) (xs : Nat → Int32) (h : mH) (U : State) : Prop := m_Fx ad base vF dC dI dA N xs U U.heap ∧ va_P (dC, dI) m_cl (m_ws dA ad h) U.heap ∧ U.heap.size = base + h.1.length ∧ h.1.length ≤ 1000000
/-- .. and at its end -/
def m_Qw (ad : Nat → Nat) (base : Nat) (vF : Value) (dC : Nat → ClassId) (dI : Nat → Nat → Nat) (dA : Nat → Nat) (rv : Option Value) (h' : mH) : Array Value → State → Outcome → State → Prop := fun _ st o t => o = .returned (rv.map (m_v ad vF)) ∧ va_P (dC, dI) m_cl (m_ws dA ad h') t.heap ∧ t.heap.size = base + h'.1.length ∧ h'.1.length ≤ 1000000 ∧ va_F (m_A base) st t
def m_Met (ad : Nat → Nat) (base : Nat) (vF : Value) (dC : Nat → ClassId) (dI : Nat → Nat → Nat) (dA : Nat → Nat) (N : Nat) (xs : Nat → Int32) (l : Launch) (d : Nat) (y : mM) (As : List Value) (h : mH) (rv : Option Value) (h' : mH) : Prop :=
  Met l y.2.1 (m_wsy y) (m_rm d (h'.1.length - h.1.length) (m_sl h'.1 - m_sl h.1)) (va_Pc (As.map (m_v ad vF)) (m_Pw ad base vF dC dI dA N xs h)) (m_Qw ad base vF dC dI dA rv h') (h'.1.length - h.1.length) (m_sl h'.1 - m_sl h.1) (m_A base)
theorem m_Pw_blind (As : List Value) (h : mH) : FrameBlind (va_Pc (As.map (m_v ad vF)) (m_Pw ad base vF dC dI dA N xs h)) := fun a U g mk q => ⟨q.1, m_Fx_blind q.2.1, q.2.2.1, q.2.2.2.1, q.2.2.2.2⟩
end MET
section MW
variable {p : Program} {l : Launch} {ev : Env} {R : Room} {s : State} {m : MethodId} {args : Array Value} {below : List Frame} {meth : Method} {c : Code} {H : Heap} {locs : List Loc} {cells slots : Nat} {Q : State → Prop}
variable {ad : Nat → Nat} {base : Nat} {vF : Value} {dC : Nat → ClassId} {dI : Nat → Nat → Nat} {dA : Nat → Nat} {N : Nat} {xs : Nat → Int32} {tab : List mM}
theorem m_callW {mc ms pc : Nat} {ls : Array Slot} {st0 rest : List Value} {Qa : State → Outcome → State → Prop} {free : Addr → Prop} (hr : va_Run p l ev R s m args below meth c H locs cells slots mc ms (F0 m pc ls st0) rest Qa free)
    (kk : ∀ (v : Option Value) (st₀ t : State) (L : List Loc), st₀.heap = H → Qa st₀ (.returned v) t → (∀ q ∈ L, free q.base) → W p l ev R s m args below meth c t.heap (locs ++ L) (cells + mc) (slots + ms) Q (F0 m (pc + 3) ls (v.toList ++ rest))) : W p l ev R s m args below meth c H locs cells slots Q (F0 m pc ls st0) := by
  intro T hT X
  obtain ⟨v, st₀, t, T', L, h0, X', hL, e1, e2, hq, st⟩ := hr T hT X
  obtain ⟨t2, a1, b1⟩ := kk v st₀ t L h0 hq hL T' e1 X'
  exact ⟨t2, st t2 a1, b1⟩
/-- the call of a method that has its contract -/
theorem m_call_ok {cc : ByteArray} {own nm : String} {pc nL d k : Nat} {lsA : Array Slot} {st : List Value} {h h1 : mH} {ins : Instr} {aux : List Int} {y : mM} {rv : Option Value}
    (hcall : m_call tab ins aux = some (y, k)) (hd : decode cc pc = .ok (ins, m_len ins aux)) (hok : m_okI own nm tab pc ins aux = true) (hT : m_okT tab) (hx : p.tables.exec = Jvm.exec) (hb : c.code = cc) (hml : c.maxLocals = nL) (hlsz : lsA.size = nL) (hown : s.vm.findClass own = some m.cls) (hts : ∀ w ∈ m_TW, w.before args s = true) (hF : m_Fx ad base vF dC dI dA N xs s s.heap)
    (hM : m_Met ad base vF dC dI dA N xs l d y (st.take k).reverse h rv h1) (hk : k ≤ st.length) (hcat : ((st.drop k).map fun v => v.category).sum ≤ 8) (hrecv : m_recv h y.1 y.2.2.2.2.2.1 (st.take k).reverse = true)
    (hP : va_P (dC, dI) m_cl (m_ws dA ad h) H) (hsz : H.size = base + h.1.length) (hlen : h.1.length ≤ 1000000) (hS : va_S (m_A base) s.heap H locs) (hmono : h.1.length ≤ h1.1.length ∧ m_sl h.1 ≤ m_sl h1.1) (hcells : cells + (h1.1.length - h.1.length) ≤ R.cells) (hslots : slots + (m_sl h1.1 - m_sl h.1) ≤ R.slots) (hroom : d + 2 ≤ R.frames ∧ 100 * (d + 1) + 30 ≤ R.locals)
    (kk : ∀ (H' : Heap) (locs' : List Loc) (cells' slots' : Nat), va_P (dC, dI) m_cl (m_ws dA ad h1) H' → H'.size = base + h1.1.length → h1.1.length ≤ 1000000 → va_S (m_A base) s.heap H' locs' → cells' + h.1.length = cells + h1.1.length → slots' + m_sl h.1 = slots + m_sl h1.1 → W p l ev R s m args below meth c H' locs' cells' slots' Q (F0 m (pc + 3) lsA ((rv.toList ++ st.drop k).map (m_v ad vF)))) :
    W p l ev R s m args below meth c H locs cells slots Q (F0 m pc lsA (st.map (m_v ad vF))) := by
  have hvF : vF.category = 1 := hF.2.2.2.2.2.2.2.2.2.2.2.1
  have hcat' : (((st.drop k).map (m_v ad vF)).map fun v => v.category).sum ≤ 8 := by
    rw [List.map_map, show ((fun v : Value => v.category) ∘ m_v ad vF) = (fun v => v.category) from funext fun w => m_v_cat hvF w]
    exact hcat
  have hst : st.map (m_v ad vF) = ((st.take k).reverse.map (m_v ad vF)).reverse ++ (st.drop k).map (m_v ad vF) := by
    rw [List.map_reverse, List.reverse_reverse, ← List.map_append, List.take_append_drop]
  have hPre : ∀ U : State, U.heap = H → s.WarmedH U.vm → va_Pc ((st.take k).reverse.map (m_v ad vF)) (m_Pw ad base vF dC dI dA N xs h) ((st.take k).reverse.map (m_v ad vF)).toArray U := fun U hU hW => ⟨rfl, m_Fx_enter hF hS hU hW, by rw [hU]; exact hP, by rw [hU]; exact hsz, hlen⟩
  have hrest : ∀ {mc ms : Nat}, mc = h1.1.length - h.1.length → ms = m_sl h1.1 - m_sl h.1 → va_Run p l ev R s m args below meth c H locs cells slots mc ms (F0 m pc lsA (st.map (m_v ad vF))) ((st.drop k).map (m_v ad vF)) (m_Qw ad base vF dC dI dA rv h1 ((st.take k).reverse.map (m_v ad vF)).toArray) (m_A base) → W p l ev R s m args below meth c H locs cells slots Q (F0 m pc lsA (st.map (m_v ad vF))) := by
    intro mc ms e1 e2 hr
    subst e1; subst e2
    refine m_callW hr fun v st₀ t L h0 hq hL => ?_
    obtain ⟨q1, q2, q3, q4, q5⟩ := hq
    cases q1
    rw [va_F, h0] at q5
    have h9 := kk t.heap (locs ++ L) (cells + (h1.1.length - h.1.length)) (slots + (m_sl h1.1 - m_sl h.1)) q2 q3 q4 ⟨Nat.le_trans hS.1 q5.1, fun q z1 z2 => by rw [q5.2 q (Nat.lt_of_lt_of_le z1 hS.1) z2]; exact hS.2.1 q z1 z2, fun q hq => by
      rcases List.mem_append.mp hq with z | z
      · exact hS.2.2 q z
      · exact hL q z⟩ (by omega) (by omega)
    cases rv <;> simpa using h9
  unfold m_call at hcall
  split at hcall
  · -- static
    next idx yi n pl nest =>
    split at hcall
    · next e hy =>
      split at hcall
      · next hk0 =>
        simp only [Option.some.injEq, Prod.mk.injEq] at hcall
        obtain ⟨rfl, rfl⟩ := hcall
        obtain ⟨⟨o1, o2, o3, o4, o5, o6, o7, o8, o9, o10⟩, -⟩ := hT e (List.mem_of_getElem? hy)
        simp only [m_okI, hy, Bool.and_eq_true, decide_eq_true_eq] at hok
        obtain ⟨hlink, hn⟩ := hok
        have hlenAs : ((st.take n.toNat).reverse.map (m_v ad vF)).length = n.toNat := by simp [hk]
        have hR : (m_rm d (h1.1.length - h.1.length) (m_sl h1.1 - m_sl h.1)).frames + 1 ≤ R.frames ∧ 8 + (e.2.2.2.1 + 11) + (m_rm d (h1.1.length - h.1.length) (m_sl h1.1 - m_sl h.1)).locals ≤ R.locals := by
          simp only [m_rm]; omega
        have hall : ∀ w ∈ m_wsy e, w ∈ m_TW := fun w hw => by
          rcases List.mem_cons.mp hw with rfl | hw
          · exact o4
          · exact hw
        split at hlink
        · refine hrest rfl rfl (va_runS (cc := cc) (nL := nL) (own := own) (Ts := m_TW) ⟨hx, hb, hml, hown, hts⟩ hM (va_cwS (ws' := m_TW) n.toNat hts (m_goodIn fun w hw => ?_) rfl rfl rfl ⟨o2.1, o2.2, hn⟩ hR) ⟨m_Pw_blind _ _, hPre⟩ rfl hlenAs hlsz (by rw [hst]) (by show 2 * 0 + _ ≤ 8; omega) hd ⟨hcells, hslots⟩)
          unfold va_wsS at hw
          rcases List.mem_append.mp hw with hw | hw
          · simp only [List.mem_cons, List.not_mem_nil, or_false] at hw
            rcases hw with rfl | rfl | rfl
            · exact m_w_in hlink
            · exact o6 hk0
            · exact o5
          · exact hall w hw
        · refine hrest rfl rfl (va_runSN (cc := cc) (nL := nL) (own := own) (Ts := m_TW) (host := "IsHeIn") ⟨hx, hb, hml, hown, hts⟩ hM ⟨va_cnB (ws' := m_TW) n.toNat hts (m_goodIn hall) rfl rfl rfl (hF.2.1 _ (m_nw_in hlink)) (hts _ o5) ⟨o2.1, o2.2, hn⟩ hR, hts _ (o6 hk0), trivial⟩ ⟨m_Pw_blind _ _, hPre⟩ rfl hlenAs hlsz (by rw [hst]) (by show 2 * 0 + _ ≤ 8; omega) hd ⟨hcells, hslots⟩)
      · cases hcall
    · cases hcall
  · -- virtual
    next idx yi n pl nest =>
    split at hcall
    · next e hy =>
      split at hcall
      · next hk1 =>
        simp only [Option.some.injEq, Prod.mk.injEq] at hcall
        obtain ⟨rfl, rfl⟩ := hcall
        obtain ⟨⟨o1, o2, o3, o4, o5, o6, o7, o8, o9, o10⟩, -⟩ := hT e (List.mem_of_getElem? hy)
        simp only [m_okI, hy, Bool.and_eq_true, decide_eq_true_eq] at hok
        obtain ⟨⟨-, hlink⟩, hn⟩ := hok
        have hne0 : e.1 ≠ 0 := by omega
        have hR : (m_rm d (h1.1.length - h.1.length) (m_sl h1.1 - m_sl h.1)).frames + 1 ≤ R.frames ∧ 8 + (e.2.2.2.1 + 11) + (m_rm d (h1.1.length - h.1.length) (m_sl h1.1 - m_sl h.1)).locals ≤ R.locals := by
          simp only [m_rm]; omega
        -- the receiver
        generalize hAs : (st.take (n.toNat + 1)).reverse = As at hrecv hM hPre hst hrest
        have hAl : As.length = n.toNat + 1 := by rw [← hAs]; simp [hk]
        unfold m_recv at hrecv
        rw [if_neg hne0] at hrecv
        match As, hrecv, hAl with
        | .ref j :: As', hrecv, hAl =>
          simp only at hrecv
          have hrc : ∃ cellB : Cell, H[ad j]? = some cellB ∧ cellB.vm.isStatics = false ∧ s.vm.findClass e.2.1.cls = some cellB.cls := by
            rcases o10 hne0 with ⟨r1, r2⟩ | ⟨q, r1, r2, r3⟩
            · rw [if_pos r1] at hrecv
              obtain ⟨j', rfl, hj'⟩ := m_key1 j (of_decide_eq_true hrecv)
              obtain ⟨g1, -⟩ := hF.2.2.2.2.2.2.2.2.1 j' hj'
              obtain ⟨cell, c1, c2, c3, -⟩ := g1.kept hS.2.1
              exact ⟨cell, c1, c2, by rw [r2]; exact c3⟩
            · rw [if_neg r3] at hrecv
              split at hrecv
              · next ci fs hs =>
                have hci : ci = e.2.2.2.2.2.1 := by simpa using hrecv
                subst hci
                rw [← r2]
                exact va_recv hF.1 hP r1 (m_ws_get hs)
              · cases hrecv
          refine hrest rfl rfl (va_runV (cc := cc) (nL := nL) (own := own) (Ts := m_TW) (C := e.2.1.cls) (b := ad j) (As := As'.map (m_v ad vF)) ⟨hx, hb, hml, hown, hts⟩ hM (cwV (ws' := m_TW) n.toNat hts (m_goodIn fun w hw => ?_) rfl rfl rfl ⟨rfl, o2.1, o2.2, hn⟩ hR) ⟨m_Pw_blind _ _, hrc, hPre⟩ rfl (by simpa using hAl) hlsz (by rw [hst]; simp [m_v]) (by show 2 * 0 + _ ≤ 8; omega) hd ⟨hcells, hslots⟩)
          unfold wsV at hw
          rcases List.mem_append.mp hw with hw | hw
          · simp only [List.mem_cons, List.not_mem_nil, or_false] at hw
            rcases hw with rfl | rfl | rfl | rfl
            · exact m_w_in hlink
            · exact o7 hne0
            · exact o8 hk1
            · exact o5
          · rcases List.mem_cons.mp hw with rfl | hw
            · exact o4
            · exact hw
        | .int _ :: _, hrecv, hAl => cases hrecv
        | .long _ :: _, hrecv, hAl => cases hrecv
        | .float _ :: _, hrecv, hAl => cases hrecv
        | .double _ :: _, hrecv, hAl => cases hrecv
        | .null :: _, hrecv, hAl => cases hrecv
        | .retAddr _ :: _, hrecv, hAl => cases hrecv
        | [], hrecv, hAl => cases hrecv
      · cases hcall
    · cases hcall
  · -- a constructor
    next idx yi n pl nest =>
    split at hcall
    · cases hcall
    · next hy0 =>
      split at hcall
      · next e hy =>
        split at hcall
        · next hk2 =>
          simp only [Option.some.injEq, Prod.mk.injEq] at hcall
          obtain ⟨rfl, rfl⟩ := hcall
          obtain ⟨⟨o1, o2, o3, o4, o5, o6, o7, o8, o9, o10⟩, -⟩ := hT e (List.mem_of_getElem? hy)
          have hok2 : (if nest = 0 then m_w pl (.methodLink own idx e.2.1) else m_nw pl (.methodLinkNest own idx e.2.1 "IsHeIn")) = true ∧ (parseMethodDescriptor e.2.1.desc).map (fun d => d.parameters.length) = some n.toNat := by
            simp only [m_okI, if_neg hy0, hy, Bool.and_eq_true, decide_eq_true_eq] at hok
            exact hok
          obtain ⟨hlink, hn⟩ := hok2
          have hne0 : e.1 ≠ 0 := by omega
          have hR : (m_rm d (h1.1.length - h.1.length) (m_sl h1.1 - m_sl h.1)).frames + 1 ≤ R.frames ∧ 8 + (e.2.2.2.1 + 11) + (m_rm d (h1.1.length - h.1.length) (m_sl h1.1 - m_sl h.1)).locals ≤ R.locals := by
            simp only [m_rm]; omega
          have hall : ∀ w ∈ m_wsy e, w ∈ m_TW := fun w hw => by
            rcases List.mem_cons.mp hw with rfl | hw
            · exact o4
            · exact hw
          obtain ⟨hn1, hn2⟩ := o9 hk2
          have hws : m_wsy e = Cond.code e.2.1 e.2.2.1 e.2.2.2.1 none :: m_TW := by unfold m_wsy; rw [hn2]
          generalize hAs : (st.take (n.toNat + 1)).reverse = As at hrecv hM hPre hst hrest
          have hAl : As.length = n.toNat + 1 := by rw [← hAs]; simp [hk]
          unfold m_recv at hrecv
          rw [if_neg hne0] at hrecv
          match As, hrecv, hAl with
          | .ref j :: As', hrecv, hAl =>
            split at hlink
            · exact hrest rfl rfl (va_runI (cc := cc) (nL := nL) (own := own) (Ts := m_TW) (b := ad j) (As := As'.map (m_v ad vF)) ⟨hx, hb, hml, hown, hts⟩ hM (cwI (bytes := e.2.2.1) (maxL := e.2.2.2.1) (ws' := m_TW) n.toNat hts (m_goodIn hall) hws rfl rfl (hts _ o5) (hts _ (m_w_in hlink)) (hts _ (o7 hne0)) hn1 ⟨o2.1, o2.2, hn⟩ hR) ⟨m_Pw_blind _ _, hPre⟩ rfl (by simpa using hAl) hlsz (by rw [hst]; simp [m_v]) (by show 2 * 0 + _ ≤ 8; omega) hd ⟨hcells, hslots⟩)
            · exact hrest rfl rfl (va_runIN (cc := cc) (nL := nL) (own := own) (Ts := m_TW) (host := "IsHeIn") (b := ad j) (As := As'.map (m_v ad vF)) ⟨hx, hb, hml, hown, hts⟩ hM ⟨va_cnB (bytes := e.2.2.1) (maxL := e.2.2.2.1) (ws' := m_TW) n.toNat hts (m_goodIn hall) hws rfl rfl (hF.2.1 _ (m_nw_in hlink)) (hts _ o5) ⟨o2.1, o2.2, hn⟩ hR, hn1, hts _ (o7 hne0)⟩ ⟨m_Pw_blind _ _, hPre⟩ rfl (by simpa using hAl) hlsz (by rw [hst]; simp [m_v]) (by show 2 * 0 + _ ≤ 8; omega) hd ⟨hcells, hslots⟩)
          | .int _ :: _, hrecv, hAl => cases hrecv
          | .long _ :: _, hrecv, hAl => cases hrecv
          | .float _ :: _, hrecv, hAl => cases hrecv
          | .double _ :: _, hrecv, hAl => cases hrecv
          | .null :: _, hrecv, hAl => cases hrecv
          | .retAddr _ :: _, hrecv, hAl => cases hrecv
          | [], hrecv, hAl => cases hrecv
        · cases hcall
      · cases hcall
  · cases hcall
end MW
end
section
section RW
variable {ad : Nat → Nat} {base : Nat} {vF : Value} {dC : Nat → ClassId} {dI : Nat → Nat → Nat} {dA : Nat → Nat} {N : Nat} {xs : Nat → Int32} {tab : List mM}
/-- a run of n steps at most is the real one, whatever is wanted behind its end -/
def m_RunW (ad : Nat → Nat) (base : Nat) (vF : Value) (dC : Nat → ClassId) (dI : Nat → Nat → Nat) (dA : Nat → Nat) (N : Nat) (xs : Nat → Int32) (tab : List mM) (n : Nat) : Prop :=
  ∀ (d : Nat) (e : mM) (pc : Nat) (ls : List (Option Value)) (st : List Value) (h : mH) (rv : Option Value) (h' : mH), m_run tab N xs n d e pc ls st h = some (rv, h') → m_okC tab e →
    ∀ {p : Program} {l : Launch} {ev : Env} {R : Room} {s : State} {m : MethodId} {args : Array Value} {below : List Frame} {meth : Method} {c : Code} {Q : State → Prop} {H : Heap} {locs : List Loc} {cells slots : Nat} {lsA : Array Slot},
      p.tables.exec = Jvm.exec → c.code = e.2.2.1 → c.maxLocals = e.2.2.2.1 → s.vm.findClass e.2.1.cls = some m.cls → (e.2.1.name = "<init>" → meth.name = "<init>") → (∀ w ∈ m_TW, w.before args s = true) → m_Fx ad base vF dC dI dA N xs s s.heap → d + 1 ≤ R.frames ∧ 100 * d + 30 ≤ R.locals →
      va_P (dC, dI) m_cl (m_ws dA ad h) H → H.size = base + h.1.length → h.1.length ≤ 1000000 → va_S (m_A base) s.heap H locs → m_LH ad vF lsA e.2.2.2.1 ls → ls.length = e.2.2.2.1 → cells + (h'.1.length - h.1.length) ≤ R.cells → slots + (m_sl h'.1 - m_sl h.1) ≤ R.slots →
      (∀ (pc' : Nat) (ins : Instr) (aux : List Int) (st' : List Value) (H' : Heap) (locs' : List Loc) (cells' slots' : Nat) (lsA' : Array Slot), m_isRet ins = true → decode e.2.2.1 pc' = .ok (ins, m_len ins aux) → m_ret e.2.2.2.2.1 ins st' = some rv → va_P (dC, dI) m_cl (m_ws dA ad h') H' → H'.size = base + h'.1.length → h'.1.length ≤ 1000000 → va_S (m_A base) s.heap H' locs' → cells' + h.1.length = cells + h'.1.length → slots' + m_sl h.1 = slots + m_sl h'.1 → W p l ev R s m args below meth c H' locs' cells' slots' Q (F0 m pc' lsA' (st'.map (m_v ad vF)))) →
      W p l ev R s m args below meth c H locs cells slots Q (F0 m pc lsA (st.map (m_v ad vF)))
/-- so a method that is run from its entry has its contract -/
theorem m_met_of {n : Nat} (hR : m_RunW ad base vF dC dI dA N xs tab n) {d : Nat} {y : mM} {As : List Value} {h : mH} {rv : Option Value} {h' : mH} (hr : m_run tab N xs n d y 0 (m_en As ++ List.replicate (y.2.2.2.1 - (m_en As).length) none) [] h = some (rv, h')) (hH : m_okH y) (hC : m_okC tab y) (hl : (m_en As).length ≤ y.2.2.2.1) (l : Launch) :
    m_Met ad base vF dC dI dA N xs l d y As h rv h' := by
  have hmono := m_run_mono tab N xs _ _ _ _ _ _ _ _ _ hr
  refine Met.ofW (cc := y.2.2.1) (maxL := y.2.2.2.1) (ret := y.2.2.2.2.1) hH.1 rfl ?_
  intro p e s m args below meth c s₁ B hml hv
  obtain ⟨rfl, hF, hP, hsz, hlen⟩ := hv
  have hts0 := atoms_spec (ws := m_wsy y) B.pre
  have hown : s.vm.findClass y.2.1.cls = some m.cls := findClass_of_methodNamed B.named
  have hlocks := B.notSynchronized
  have hrt := B.returns
  have hx := B.exec
  have hb := B.bytes
  have hvF : vF.category = 1 := hF.2.2.2.2.2.2.2.2.2.2.2.1
  have hlen2 := m_en_len ad hvF As
  have hS : va_S (m_A base) s.heap s.heap [] := va_S.rf
  have hL := lv_entry (As.map (m_v ad vF)) (n := y.2.2.2.1) (by omega)
  rw [lg_entry_eq]
  generalize (lg_sl (As.map (m_v ad vF)) ++ List.replicate (y.2.2.2.1 - (lg_sl (As.map (m_v ad vF))).length) Slot.unset).toArray = lsA at hL ⊢
  have hLH : m_LH ad vF lsA y.2.2.2.1 (m_en As ++ List.replicate (y.2.2.2.1 - (m_en As).length) none) := by
    refine m_LH.of hL fun i v hi => ?_
    by_cases hlt : i < (m_en As).length
    · rw [List.getElem?_append_left hlt] at hi
      simpa using m_en_lv ad hvF As 0 i v hi
    · rw [List.getElem?_append_right (by omega), List.getElem?_replicate] at hi
      split at hi <;> cases hi
  refine hR d y 0 _ [] h rv h' hr hC hx hb hml hown (fun q => (name_of_methodNamed B.named B.method).1.trans q) (fun w hw => hts0 w (List.mem_cons_of_mem _ hw)) hF ⟨Nat.le_refl _, Nat.le_refl _⟩ hP hsz hlen hS hLH (by simp; omega) (by show 0 + _ ≤ h'.1.length - h.1.length; omega) (by show 0 + _ ≤ m_sl h'.1 - m_sl h.1; omega) ?_
  intro pc' ins aux st' H' locs' cells' slots' lsA' hisr hd hret hP' hsz' hlen' hS' hc hs
  obtain rfl : cells' = h'.1.length - h.1.length := by omega
  obtain rfl : slots' = m_sl h'.1 - m_sl h.1 := by omega
  have fin : ∀ {v : Option Value}, v = rv.map (m_v ad vF) → ∀ t : State, t.heap = H' → s.WarmedH t.vm → m_Qw ad base vF dC dI dA rv h' (As.map (m_v ad vF)).toArray s (.returned v) t := fun e t ht hW => ⟨by rw [e], by rw [ht]; exact hP', by rw [ht]; exact hsz', hlen', hS'.F ht⟩
  unfold m_ret at hret
  split at hret
  · split at hret
    · next hr0 =>
      cases hret
      exact W.vret hx hb (by rw [hrt]; exact hr0) (fin rfl) hS'.2.2 hd
    · cases hret
  · next v =>
    split at hret
    · next hr0 =>
      cases hret
      exact W.zret hx hb (by rw [hrt]; exact hr0) rfl (fin rfl) hS'.2.2 hd
    · next hr0 =>
      split at hret
      · next hv =>
        cases hret
        exact W.zret hx hb (by rw [hrt]; exact hr0) (by rcases hv with rfl | rfl <;> decide) (fin rfl) hS'.2.2 hd
      · cases hret
    · next hr0 =>
      split at hret
      · next hv =>
        cases hret
        exact W.zret hx hb (by rw [hrt]; exact hr0) (by simp only [narrow, hv]) (fin rfl) hS'.2.2 hd
      · cases hret
    · next hr0 =>
      split at hret
      · next hv =>
        cases hret
        exact W.zret hx hb (by rw [hrt]; exact hr0) (by simp only [narrow, hv]) (fin rfl) hS'.2.2 hd
      · cases hret
    · cases hret
  · next v =>
    split at hret
    · next hr0 =>
      cases hret
      exact W.lret hx hb (by rw [hrt]; exact hr0) (fin rfl) hS'.2.2 hd
    · cases hret
  · next j =>
    split at hret
    · next o hr0 =>
      cases hret
      exact W.aret hx hb (by rw [hrt]; exact hr0) (Or.inl ⟨_, rfl⟩) (Or.inr ⟨_, rfl⟩) (fin rfl) hS'.2.2 hd
    · cases hret
  · split at hret
    · next o hr0 =>
      cases hret
      exact W.aret hx hb (by rw [hrt]; exact hr0) (Or.inl ⟨_, rfl⟩) (Or.inl rfl) (fin rfl) hS'.2.2 hd
    · cases hret
  · cases hret
theorem m_run_W (hT : m_okT tab) : ∀ n, m_RunW ad base vF dC dI dA N xs tab n := by
  intro n
  induction n with
  | zero => intro d e pc ls st h rv h' hr; cases hr
  | succ n ih =>
    intro d e pc ls st h rv h' hr hC p l ev R s m args below meth c Q H locs cells slots lsA hx hb hml hown hnm hts hF hroom hP hsz hlen hS hLH hlsl hcells hslots kk
    unfold m_run at hr
    split at hr
    · cases hr
    · next ins aux hat =>
      obtain ⟨hd, hok⟩ := hC _ (m_at_in hat)
      split at hr
      · next hisr =>
        split at hr
        · next v hret =>
          cases hr
          exact kk pc ins aux st H locs cells slots lsA hisr hd hret hP hsz hlen hS rfl rfl
        · cases hr
      · split at hr
        · next y k hcall =>
          split at hr
          · cases hr
          · next d' =>
            split at hr
            · next hcond =>
              obtain ⟨hk, hcat, hrecv, hel⟩ := hcond
              split at hr
              · next v h1 hrun =>
                have hy : y ∈ tab := by
                  unfold m_call at hcall
                  split at hcall
                  · split at hcall
                    · next e1 he1 =>
                      split at hcall
                      · cases hcall; exact List.mem_of_getElem? he1
                      · cases hcall
                    · cases hcall
                  · split at hcall
                    · next e1 he1 =>
                      split at hcall
                      · cases hcall; exact List.mem_of_getElem? he1
                      · cases hcall
                    · cases hcall
                  · split at hcall
                    · cases hcall
                    · split at hcall
                      · next e1 he1 =>
                        split at hcall
                        · cases hcall; exact List.mem_of_getElem? he1
                        · cases hcall
                      · cases hcall
                  · cases hcall
                have hM := m_met_of ih hrun (hT y hy).1 (hT y hy).2 hel l
                have m1 := m_run_mono tab N xs _ _ _ _ _ _ _ _ _ hrun
                have m2 := m_run_mono tab N xs _ _ _ _ _ _ _ _ _ hr
                refine m_call_ok (tab := tab) (own := e.2.1.cls) (nm := e.2.1.name) (nL := e.2.2.2.1) hcall hd hok hT hx hb hml hLH.1 hown hts hF hM hk hcat hrecv hP hsz hlen hS m1 (by omega) (by omega) ⟨by omega, by omega⟩ fun H' locs' cells' slots' hP' hsz' hlen' hS' hc hs => ?_
                refine ih (d' + 1) e (pc + 3) ls (v.toList ++ st.drop k) h1 rv h' hr hC hx hb hml hown hnm hts hF hroom hP' hsz' hlen' hS' hLH hlsl (by omega) (by omega) ?_
                intro pc2 ins2 aux2 st2 H2 locs2 cells2 slots2 lsA2 a1 a2 a3 a4 a5 a6 a7 a8 a9
                exact kk pc2 ins2 aux2 st2 H2 locs2 cells2 slots2 lsA2 a1 a2 a3 a4 a5 a6 a7 (by omega) (by omega)
              · cases hr
            · cases hr
        · split at hr
          · next pc1 ls1 st1 h1 hop =>
            have m1 := m_op_mono hop
            have m2 := m_run_mono tab N xs _ _ _ _ _ _ _ _ _ hr
            have go : ∀ (H' : Heap) (locs' : List Loc) (cells' slots' : Nat) (lsA' : Array Slot), ls1.length = e.2.2.2.1 → m_LH ad vF lsA' e.2.2.2.1 ls1 → va_P (dC, dI) m_cl (m_ws dA ad h1) H' → H'.size = base + h1.1.length → h1.1.length ≤ 1000000 → va_S (m_A base) s.heap H' locs' → cells' + h.1.length = cells + h1.1.length → slots' + m_sl h.1 = slots + m_sl h1.1 → W p l ev R s m args below meth c H' locs' cells' slots' Q (F0 m pc1 lsA' (st1.map (m_v ad vF))) := by
              intro H' locs' cells' slots' lsA' hll hLH' hP' hsz' hlen' hS' hc hs
              refine ih d e pc1 ls1 st1 h1 rv h' hr hC hx hb hml hown hnm hts hF hroom hP' hsz' hlen' hS' hLH' hll (by omega) (by omega) ?_
              intro pc2 ins2 aux2 st2 H2 locs2 cells2 slots2 lsA2 a1 a2 a3 a4 a5 a6 a7 a8 a9
              exact kk pc2 ins2 aux2 st2 H2 locs2 cells2 slots2 lsA2 a1 a2 a3 a4 a5 a6 a7 (by omega) (by omega)
            unfold m_op at hop
            split at hop
            · next f hf =>
              cases hop
              exact m_op1_ok (own := e.2.1.cls) (nm := e.2.1.name) hf hd hok hx hb hown hts hF hlsl hLH fun e1 e2 lsA' e3 => by
                subst e1
                exact go H locs cells slots lsA' e2 e3 hP hsz hlen hS rfl rfl
            · split at hop
              · next f hf =>
                cases hop
                exact m_op2_ok (own := e.2.1.cls) (nm := e.2.1.name) hf hd hok hx hb fun e1 e2 => by
                  subst e1
                  subst e2
                  exact go H locs cells slots lsA hlsl hLH hP hsz hlen hS rfl rfl
              · refine m_op3_ok (own := e.2.1.cls) (nm := e.2.1.name) hop hd hok hx hb (by rw [hml]; exact hLH.1) hown hts hF hnm hP hsz hlen hS (by omega) (by omega) ⟨by omega, by omega⟩ fun H' locs' cells' slots' e2 hP' hsz' hlen' hS' hc hs => ?_
                subst e2
                exact go H' locs' cells' slots' lsA hlsl hLH hP' hsz' hlen' hS' hc hs
          · cases hr
end RW
end
section
/-! THE LAW'S START: what the Statement gives, and the run of the small machine that is left to show -/
def R_law : String := "IsHeInLaw"
def m_fl : List Cond := flatC (Jvm.Cond.and given_1 narrow_1)
def m_tm (k : Nat) : Term := match m_str[k]? with
  | some q => .string q.1 q.2.1
  | none => .string "" 0
theorem m_f1 : ∀ k, k < 27 → Cond.exactly (m_tm k) "java/lang/String" ∈ m_fl := by decide +kernel
theorem m_f2 : ∀ k, k < 27 → Cond.eq (.field (m_tm k) "java/lang/String" "coder" "B") (.int 0) ∈ m_fl := by decide +kernel
theorem m_f3 : ∀ k, k < 27 → Cond.arrayOf (.field (m_tm k) "java/lang/String" "value" "[B") .byte ∈ m_fl := by decide +kernel
theorem m_f4 : ∀ k, k < 27 → Cond.eq (.length (.field (m_tm k) "java/lang/String" "value" "[B")) (.int (Int32.ofNat (m_sb.getD k []).length)) ∈ m_fl := by decide +kernel
def m_e5 (k j : Nat) : Cond := .eq (.elem (.field (m_tm k) "java/lang/String" "value" "[B") (.int (Int32.ofNat j))) (.int ((m_sb.getD k []).getD j 0))
theorem m_f5_0_0 : (m_fl.drop 21).take 24 = (List.range' 0 24).map (m_e5 0) := by decide +kernel
theorem m_f5_0_1 : (m_fl.drop 45).take 24 = (List.range' 24 24).map (m_e5 0) := by decide +kernel
theorem m_f5_0_2 : (m_fl.drop 69).take 24 = (List.range' 48 24).map (m_e5 0) := by decide +kernel
theorem m_f5_0_3 : (m_fl.drop 93).take 24 = (List.range' 72 24).map (m_e5 0) := by decide +kernel
theorem m_f5_0_4 : (m_fl.drop 117).take 24 = (List.range' 96 24).map (m_e5 0) := by decide +kernel
theorem m_f5_0_5 : (m_fl.drop 141).take 6 = (List.range' 120 6).map (m_e5 0) := by decide +kernel
theorem m_f5_1_0 : (m_fl.drop 151).take 4 = (List.range' 0 4).map (m_e5 1) := by decide +kernel
theorem m_f5_2_0 : (m_fl.drop 159).take 2 = (List.range' 0 2).map (m_e5 2) := by decide +kernel
theorem m_f5_3_0 : (m_fl.drop 165).take 3 = (List.range' 0 3).map (m_e5 3) := by decide +kernel
theorem m_f5_4_0 : (m_fl.drop 172).take 3 = (List.range' 0 3).map (m_e5 4) := by decide +kernel
theorem m_f5_5_0 : (m_fl.drop 179).take 5 = (List.range' 0 5).map (m_e5 5) := by decide +kernel
theorem m_f5_6_0 : (m_fl.drop 188).take 5 = (List.range' 0 5).map (m_e5 6) := by decide +kernel
theorem m_f5_7_0 : (m_fl.drop 197).take 3 = (List.range' 0 3).map (m_e5 7) := by decide +kernel
theorem m_f5_8_0 : (m_fl.drop 204).take 5 = (List.range' 0 5).map (m_e5 8) := by decide +kernel
theorem m_f5_9_0 : (m_fl.drop 213).take 3 = (List.range' 0 3).map (m_e5 9) := by decide +kernel
theorem m_f5_10_0 : (m_fl.drop 220).take 4 = (List.range' 0 4).map (m_e5 10) := by decide +kernel
theorem m_f5_11_0 : (m_fl.drop 228).take 4 = (List.range' 0 4).map (m_e5 11) := by decide +kernel
theorem m_f5_12_0 : (m_fl.drop 236).take 5 = (List.range' 0 5).map (m_e5 12) := by decide +kernel
theorem m_f5_13_0 : (m_fl.drop 245).take 5 = (List.range' 0 5).map (m_e5 13) := by decide +kernel
theorem m_f5_14_0 : (m_fl.drop 254).take 2 = (List.range' 0 2).map (m_e5 14) := by decide +kernel
theorem m_f5_15_0 : (m_fl.drop 260).take 4 = (List.range' 0 4).map (m_e5 15) := by decide +kernel
theorem m_f5_16_0 : (m_fl.drop 268).take 5 = (List.range' 0 5).map (m_e5 16) := by decide +kernel
theorem m_f5_17_0 : (m_fl.drop 277).take 5 = (List.range' 0 5).map (m_e5 17) := by decide +kernel
theorem m_f5_18_0 : (m_fl.drop 286).take 5 = (List.range' 0 5).map (m_e5 18) := by decide +kernel
theorem m_f5_19_0 : (m_fl.drop 295).take 5 = (List.range' 0 5).map (m_e5 19) := by decide +kernel
theorem m_f5_20_0 : (m_fl.drop 304).take 4 = (List.range' 0 4).map (m_e5 20) := by decide +kernel
theorem m_f5_21_0 : (m_fl.drop 312).take 2 = (List.range' 0 2).map (m_e5 21) := by decide +kernel
theorem m_f5_22_0 : (m_fl.drop 318).take 3 = (List.range' 0 3).map (m_e5 22) := by decide +kernel
theorem m_f5_23_0 : (m_fl.drop 325).take 5 = (List.range' 0 5).map (m_e5 23) := by decide +kernel
theorem m_f5_24_0 : (m_fl.drop 334).take 4 = (List.range' 0 4).map (m_e5 24) := by decide +kernel
theorem m_f5_25_0 : (m_fl.drop 342).take 3 = (List.range' 0 3).map (m_e5 25) := by decide +kernel
theorem m_f5_26_0 : (m_fl.drop 349).take 2 = (List.range' 0 2).map (m_e5 26) := by decide +kernel
theorem m_f5i {p n b k j : Nat} (h : (m_fl.drop p).take n = (List.range' b n).map (m_e5 k)) (h1 : b ≤ j) (h2 : j < b + n) : m_e5 k j ∈ m_fl :=
  List.mem_of_mem_drop (List.mem_of_mem_take (h ▸ List.mem_map_of_mem (List.mem_range'_1.mpr ⟨h1, h2⟩) : m_e5 k j ∈ (m_fl.drop p).take n))
theorem m_f5 : ∀ k, k < 27 → ∀ j, j < (m_sb.getD k []).length → m_e5 k j ∈ m_fl := by
  intro k hk j hj
  match k, hk, hj with
  | 0, _, hj =>
    have hj : j < 126 := hj
    by_cases h0 : j < 24
    · exact m_f5i m_f5_0_0 (by omega) (by omega)
    by_cases h1 : j < 48
    · exact m_f5i m_f5_0_1 (by omega) (by omega)
    by_cases h2 : j < 72
    · exact m_f5i m_f5_0_2 (by omega) (by omega)
    by_cases h3 : j < 96
    · exact m_f5i m_f5_0_3 (by omega) (by omega)
    by_cases h4 : j < 120
    · exact m_f5i m_f5_0_4 (by omega) (by omega)
    exact m_f5i m_f5_0_5 (by omega) (by omega)
  | 1, _, hj => exact m_f5i m_f5_1_0 (Nat.zero_le _) (by have : j < 4 := hj; omega)
  | 2, _, hj => exact m_f5i m_f5_2_0 (Nat.zero_le _) (by have : j < 2 := hj; omega)
  | 3, _, hj => exact m_f5i m_f5_3_0 (Nat.zero_le _) (by have : j < 3 := hj; omega)
  | 4, _, hj => exact m_f5i m_f5_4_0 (Nat.zero_le _) (by have : j < 3 := hj; omega)
  | 5, _, hj => exact m_f5i m_f5_5_0 (Nat.zero_le _) (by have : j < 5 := hj; omega)
  | 6, _, hj => exact m_f5i m_f5_6_0 (Nat.zero_le _) (by have : j < 5 := hj; omega)
  | 7, _, hj => exact m_f5i m_f5_7_0 (Nat.zero_le _) (by have : j < 3 := hj; omega)
  | 8, _, hj => exact m_f5i m_f5_8_0 (Nat.zero_le _) (by have : j < 5 := hj; omega)
  | 9, _, hj => exact m_f5i m_f5_9_0 (Nat.zero_le _) (by have : j < 3 := hj; omega)
  | 10, _, hj => exact m_f5i m_f5_10_0 (Nat.zero_le _) (by have : j < 4 := hj; omega)
  | 11, _, hj => exact m_f5i m_f5_11_0 (Nat.zero_le _) (by have : j < 4 := hj; omega)
  | 12, _, hj => exact m_f5i m_f5_12_0 (Nat.zero_le _) (by have : j < 5 := hj; omega)
  | 13, _, hj => exact m_f5i m_f5_13_0 (Nat.zero_le _) (by have : j < 5 := hj; omega)
  | 14, _, hj => exact m_f5i m_f5_14_0 (Nat.zero_le _) (by have : j < 2 := hj; omega)
  | 15, _, hj => exact m_f5i m_f5_15_0 (Nat.zero_le _) (by have : j < 4 := hj; omega)
  | 16, _, hj => exact m_f5i m_f5_16_0 (Nat.zero_le _) (by have : j < 5 := hj; omega)
  | 17, _, hj => exact m_f5i m_f5_17_0 (Nat.zero_le _) (by have : j < 5 := hj; omega)
  | 18, _, hj => exact m_f5i m_f5_18_0 (Nat.zero_le _) (by have : j < 5 := hj; omega)
  | 19, _, hj => exact m_f5i m_f5_19_0 (Nat.zero_le _) (by have : j < 5 := hj; omega)
  | 20, _, hj => exact m_f5i m_f5_20_0 (Nat.zero_le _) (by have : j < 4 := hj; omega)
  | 21, _, hj => exact m_f5i m_f5_21_0 (Nat.zero_le _) (by have : j < 2 := hj; omega)
  | 22, _, hj => exact m_f5i m_f5_22_0 (Nat.zero_le _) (by have : j < 3 := hj; omega)
  | 23, _, hj => exact m_f5i m_f5_23_0 (Nat.zero_le _) (by have : j < 5 := hj; omega)
  | 24, _, hj => exact m_f5i m_f5_24_0 (Nat.zero_le _) (by have : j < 4 := hj; omega)
  | 25, _, hj => exact m_f5i m_f5_25_0 (Nat.zero_le _) (by have : j < 3 := hj; omega)
  | 26, _, hj => exact m_f5i m_f5_26_0 (Nat.zero_le _) (by have : j < 2 := hj; omega)
  | k + 27, hk, _ => exact absurd hk (by omega)
theorem m_f6 : ∀ k, k < 27 → ∀ q, m_str[k]? = some q → Cond.stringRef q.1 q.2.1 q.2.2 ∈ lw_tbl := by
  have h : m_str.all (fun q => decide (Cond.stringRef q.1 q.2.1 q.2.2 ∈ lw_tbl)) = true := by decide +kernel
  intro k _ q hq
  exact of_decide_eq_true (List.all_eq_true.mp h q (List.mem_of_getElem? hq))
theorem m_f7 : ∀ q ∈ m_cl, Cond.instantiable q.1 q.2.2 ∈ lw_tbl := by
  have h : m_cl.all (fun q => decide (Cond.instantiable q.1 q.2.2 ∈ lw_tbl)) = true := by decide +kernel
  intro q hq
  exact of_decide_eq_true (List.all_eq_true.mp h q hq)
theorem m_f8 : ∀ w ∈ m_nest, w ∈ lw_tbl := by decide +kernel
theorem m_f9 : ∀ j, j < 5 → Cond.eq (.elem (.static "IsHeIn" "UNTOLD" "[I") (.int (Int32.ofNat j))) (.int (m_unt.getD j 0)) ∈ m_fl := by decide +kernel
theorem m_len27 : ∀ k, k < 27 → (m_sb.getD k []).length < 2 ^ 31 := by decide +kernel
theorem m_str27 : ∀ k, k < 27 → ∃ q, m_str[k]? = some q ∧ m_tm k = .string q.1 q.2.1 := by
  intro k hk
  have hl : k < m_str.length := by simpa [m_str] using hk
  exact ⟨_, List.getElem?_eq_getElem hl, by simp [m_tm, List.getElem?_eq_getElem hl]⟩
/-- the words stand at the start, so the fixed things do -/
theorem m_Fx_start {s : State} {b L : Nat} {xs : Nat → Int32} {A0 : Array Value} (hts : ∀ w ∈ lw_tbl, w.before A0 s = true) (hgv : (Jvm.Cond.and given_1 narrow_1).before A0 s = true) (hX : va_X b L xs s s.heap) (hbl : b < s.heap.size) :
    ∃ (ad : Nat → Nat) (vF : Value) (dC : Nat → ClassId) (dI : Nat → Nat → Nat) (dA : Nat → Nat), m_Fx ad s.heap.size vF dC dI dA L xs s s.heap ∧ ad 1000000 = b := by
  have hfl : ∀ w ∈ m_fl, w.before A0 s = true := flat_of_before _ hgv
  have hA : ∀ a : Nat, a < s.heap.size → ¬ m_A s.heap.size a := fun a h q => by have : s.heap.size ≤ a := q; omega
  obtain ⟨tU, htU, hT5⟩ := va_Tof (tm := .static "IsHeIn" "UNTOLD" "[I") (ty := .int) (N := 5) (f := fun j => .int (m_unt.getD j 0)) (A := m_A s.heap.size) (by decide) (hfl _ (by decide +kernel)) (va_eqt (hfl _ (by decide +kernel))) (fun j hj => va_eqt (hfl _ (m_f9 j hj))) hA
  have hZ0 := va_Zof (C := "IsHeIn") (n := "UNTOLD") (d := "[I") (A := m_A s.heap.size) (hts _ (by decide +kernel)) (hts _ (by decide +kernel)) htU hA
  have hZ1 := va_Zof (C := "java/lang/String") (n := "COMPACT_STRINGS") (d := "Z") (v := .int 1) (A := m_A s.heap.size) (hts _ (by decide +kernel)) (hts _ (by decide +kernel)) (va_eqi (hfl _ (by decide +kernel))) hA
  obtain ⟨vF, hvF, hvr⟩ := Cond.isRef_spec (args := A0) (first := s) (o := none) (s := s) (idx := []) (hfl (.isRef (.static "jdk/internal/util/Preconditions" "SIOOBE_FORMATTER" "Ljava/util/function/BiFunction;")) (by decide +kernel))
  have hZ2 := va_Zof (C := "jdk/internal/util/Preconditions") (n := "SIOOBE_FORMATTER") (d := "Ljava/util/function/BiFunction;") (A := m_A s.heap.size) (hts _ (by decide +kernel)) (hts _ (by decide +kernel)) hvF hA
  have h0 : ∀ k : Nat, ∃ q : Nat × Nat, k < 27 → (m_tm k).eval A0 s none [] s = some (.ref q.1) ∧ va_O "java/lang/String" q.1 (m_A s.heap.size) s s.heap ∧ va_OF "java/lang/String" "coder" "B" (.int 0) q.1 (m_A s.heap.size) s s.heap ∧ va_OF "java/lang/String" "value" "[B" (.ref q.2) q.1 (m_A s.heap.size) s s.heap ∧ va_T .byte q.2 (m_sb.getD k []).length (fun j => .int ((m_sb.getD k []).getD j 0)) (m_A s.heap.size) s s.heap := by
    intro k
    by_cases hk : k < 27
    · obtain ⟨a, c, cA, kA, q1, q2, q3, q4, q5, q6, -⟩ := Cond.exactly_spec (args := A0) (first := s) (o := none) (s := s) (idx := []) (t := m_tm k) (cls := "java/lang/String") (hfl _ (m_f1 k hk))
      obtain ⟨t, ht, hT⟩ := va_Tof (f := fun j => .int ((m_sb.getD k []).getD j 0)) (A := m_A s.heap.size) (m_len27 k hk) (hfl _ (m_f3 k hk)) (va_eqt (hfl _ (m_f4 k hk))) (fun j hj => va_eqt (hfl _ (m_f5 k hk j hj))) hA
      exact ⟨(a, t), fun _ => ⟨q1, ⟨cA, q3, q5, by rw [q6]; exact q2, hA a (Array.getElem?_eq_some_iff.mp q3).1⟩, vk_OFof q1 (va_eqt (hfl _ (m_f2 k hk))) hA, vk_OFof q1 ht hA, hT⟩⟩
    · exact ⟨(0, 0), fun h => absurd h hk⟩
  obtain ⟨adKV, hKV⟩ := Classical.axiomOfChoice h0
  have h1 : ∀ c : Nat, ∃ z : ClassId × (Nat → Nat), ∀ q, m_cl[c]? = some q → u_Kn s q.1 q.2.1 q.2.2 z.1 z.2 := by
    intro c
    cases hq : m_cl[c]? with
    | none => exact ⟨(0, fun _ => 0), fun q h => by cases h⟩
    | some q =>
      obtain ⟨C, T, n⟩ := q
      obtain ⟨cC, iS, hKn⟩ := u_known (ws := lw_tbl) (C := C) (T := T) (N := n) (n := n) hts (fun w hw => ((m_clok hq).1 w hw).1) (hts _ (m_f7 _ (List.mem_of_getElem? hq)))
      exact ⟨(cC, iS), fun q h => by cases h; exact hKn⟩
  obtain ⟨zz, hzz⟩ := Classical.axiomOfChoice h1
  obtain ⟨cI, kI, pI, i1, i2, i3⟩ := Cond.arrayClass_spec (type := .int) (hts (.arrayClass .int) (by decide +kernel))
  obtain ⟨cL, kL, pL, l1, l2, l3⟩ := Cond.arrayClass_spec (type := .long) (hts (.arrayClass .long) (by decide +kernel))
  have hAO : va_AO "IsHeIn$Moment" s := va_AO.of (hts (.arrayOver (.object "IsHeIn$Moment")) (by decide +kernel))
  obtain ⟨pM, cM, kM, o1, o2, o3, o4, o5⟩ := Cond.arrayOver_spec (hts (.arrayOver (.object "IsHeIn$Moment")) (by decide +kernel))
  refine ⟨m_ad s.heap.size b tU (fun k => (adKV k).1) (fun k => (adKV k).2), vF, fun c => (zz c).1, fun c => (zz c).2, fun k => if k = 0 then cI else if k = 1 then cL else cM, ⟨⟨fun c q hq => hzz c q hq, fun k q hk => ?_⟩, fun w hw => va_Nw.of (m_nest_on w hw) (hts _ (m_f8 w hw)), hAO, ⟨hX, hbl, hbl⟩, hT5, hZ0, hZ1, hZ2, fun k hk => ?_, fun k hk q hq => ?_, Nat.le_refl _, ?_, fun j hj => ?_⟩, ?_⟩
  · match k, hk with
    | 0, hk => cases hk; exact ⟨fun n z => ⟨fun k h => (by cases h), kI, i2, pI, i3⟩, i1⟩
    | 1, hk => cases hk; exact ⟨fun n z => ⟨fun k h => (by cases h), kL, l2, pL, l3⟩, l1⟩
    | 2, hk => cases hk; exact ⟨fun n z => ⟨fun k h => (by cases h), kM, o3, pM, o4⟩, kM, pM, o3, o4, o1, o5⟩
    | k + 3, hk => simp [m_tys] at hk
  · obtain ⟨-, g1, g2, g3, g4⟩ := hKV k hk
    have e1 : m_ad s.heap.size b tU (fun k => (adKV k).1) (fun k => (adKV k).2) (1000100 + k) = (adKV k).1 := by
      unfold m_ad
      rw [if_neg (by omega), if_neg (by omega), if_neg (by omega), if_pos (by omega), show 1000100 + k - 1000100 = k by omega]
    have e2 : m_ad s.heap.size b tU (fun k => (adKV k).1) (fun k => (adKV k).2) (1000200 + k) = (adKV k).2 := by
      unfold m_ad
      rw [if_neg (by omega), if_neg (by omega), if_neg (by omega), if_neg (by omega), show 1000200 + k - 1000200 = k by omega]
    rw [e1, e2]
    exact ⟨g1, g2, g3, g4⟩
  · obtain ⟨g0, -⟩ := hKV k hk
    obtain ⟨q', hq', ht⟩ := m_str27 k hk
    cases hq.symm.trans hq'
    have e1 : m_ad s.heap.size b tU (fun k => (adKV k).1) (fun k => (adKV k).2) (1000100 + k) = (adKV k).1 := by
      unfold m_ad
      rw [if_neg (by omega), if_neg (by omega), if_neg (by omega), if_pos (by omega), show 1000100 + k - 1000100 = k by omega]
    rw [e1]
    exact vk_R.of (A := A0) (hts _ (m_f6 k hk _ hq)) (by rw [← ht]; exact g0)
  · cases vF <;> simp [Value.isRef] at hvr <;> rfl
  · unfold m_ad; rw [if_pos hj]
  · unfold m_ad; rw [if_neg (by omega), if_pos rfl]
section ST
variable {p : Program} {e : Env} {s : State} {m : MethodId} {below : List Frame} {meth : Method} {c : Code}
def lw_Q (_ : Array Value) (s : State) (o : Outcome) (t : State) : Prop := o = .returned (some (.int 1)) ∧ Framed s o t [] 600000 7302249
def lw_Z (below : List Frame) (a : Array Value) (s : State) : State → Prop := fun t => ∃ o, t.status = .running ∧ Ended t below o ∧ lw_Q a s o t
theorem lw_ret {l : Launch} {b : Nat} (hx : p.tables.exec = Jvm.exec) (hb : c.code = code) (hr : meth.sig.returnType = ret) (hlocks : meth.locks = false) {pc : Nat} {H : Heap} {ls : Array Slot} (hdg : decode code pc = .ok (.ireturn, 1)) : W p l e room_1 s m #[Value.ref b] below meth c H [] 600000 7302249 (lw_Z below #[Value.ref b] s) (F0 m pc ls [.int 1]) := by
  intro T hT X
  obtain ⟨fs, hret, hrun, hended, hW, hframe⟩ := X.leave (v := some (.int 1)) (hlocks := hlocks) (fun h => by rw [hr] at h; cases h)
  have hmeth' : T.vm.method? m = some meth := X.method'
  refine ⟨T.setFrames fs, ?_, .returned (some (.int 1)), hrun, hended, rfl, ⟨_, rfl⟩, hW, hframe⟩
  jvm_step X.here [X.here.top, hx, hb, hdg, hmeth', hr, ret, narrow_b1]
  (try refine ⟨rfl, ?_⟩); (try refine ⟨rfl, ?_⟩)
  first | (intro acts; rw [hret _ acts rfl rfl rfl]) | rw [hret _ _ rfl rfl rfl]
  exact Steps.refl _
/-- a run of the small machine through the law, to 1, is the claim's walk -/
theorem m_start {l : Launch} {b L : Nat} {xs : Nat → Int32} (hx : p.tables.exec = Jvm.exec) (hb : c.code = code) (hr : meth.sig.returnType = ret) (hml : c.maxLocals = 4) (hown : s.vm.findClass R_law = some m.cls) (hts : ∀ w ∈ lw_tbl, w.before #[Value.ref b] s = true) (hX : va_X b L xs s s.heap) (hbl : b < s.heap.size) (hlocks : meth.locks = false) (hgv : (Jvm.Cond.and given_1 narrow_1).before #[Value.ref b] s = true)
    {n : Nat} {h' : mH} (hrun : m_run m_tab L xs n 300 meL 0 [some (.ref 1000000), none, none, none] [] ([], fun _ _ => 0, fun _ _ => 0) = some (some (.int 1), h')) (h1 : h'.1.length ≤ 600000) (h2 : m_sl h'.1 ≤ 7302249) :
    W p l e room_1 s m #[Value.ref b] below meth c s.heap [] 0 0 (lw_Z below #[Value.ref b] s) (entryFrame m ([Value.ref b] : List Value).toArray 4) := by
  obtain ⟨ad, vF, dC, dI, dA, hF, hadb⟩ := m_Fx_start hts hgv hX hbl
  have hl := lv_entry ([.ref b]) (n := 4) (Nat.le_of_ble_eq_true rfl)
  rw [lg_entry_eq]
  generalize (lg_sl ([.ref b]) ++ List.replicate (4 - (lg_sl ([.ref b])).length) Slot.unset).toArray = lsA at hl ⊢
  have hl : lv_has lsA 4 [(0, .ref b)] := hl
  have hLH : m_LH ad vF lsA 4 [some (.ref 1000000), none, none, none] := by
    refine m_LH.of hl fun i v hi => ?_
    match i, hi with
    | 0, hi => cases hi; simp [m_v, hadb]
    | 1, hi => cases hi
    | 2, hi => cases hi
    | 3, hi => cases hi
    | i + 4, hi => simp at hi
  have hP0 : va_P (dC, dI) m_cl (m_ws dA ad ([], fun _ _ => 0, fun _ _ => 0)) s.heap := fun k q hk => by simp [m_ws] at hk
  refine m_run_W m_tab_ok n 300 meL 0 _ [] _ _ _ hrun m_law_ok hx hb hml hown (fun q => ?_) (fun w hw => hts w (List.mem_filter.mp hw).1) hF ⟨by decide +kernel, by decide +kernel⟩ hP0 rfl (by decide) va_S.rf hLH rfl (by show 0 + (_ - 0) ≤ 600000; omega) (by show 0 + (_ - 0) ≤ 7302249; omega) ?_
  · exact absurd q (by decide +kernel)
  · intro pc' ins aux st' H' locs' cells' slots' lsA' hisr hd hret hP' hsz' hlen' hS' hc hs
    have hret : m_ret (some .boolean) ins st' = some (some (.int 1)) := hret
    have hc' : cells' = h'.1.length := by have : cells' + 0 = 0 + h'.1.length := hc; omega
    have hs' : slots' = m_sl h'.1 := by have : slots' + 0 = 0 + m_sl h'.1 := hs; omega
    unfold m_ret at hret
    split at hret
    · cases hret
    · next v =>
      simp only at hret
      split at hret
      · cases hret
        refine va_forget (fun q hq => hS'.2.2 q hq) ?_
        refine W.widen (k := 600000) (n := 7302249) (by omega) (by omega) ?_
        exact lw_ret hx hb hr hlocks hd
      · cases hret
    · cases hret
    · cases hret
    · cases hret
    · cases hret
end ST
end
section
/-! RUNS OF THE SMALL MACHINE AS A RELATION, AND ITS RULES -/
theorem m_run_succ (tab : List mM) (N : Nat) (xs : Nat → Int32) : ∀ (n d : Nat) (e : mM) (pc : Nat) (ls : List (Option Value)) (st : List Value) (h : mH) (r : Option Value × mH), m_run tab N xs n d e pc ls st h = some r → m_run tab N xs (n + 1) d e pc ls st h = some r := by
  intro n
  induction n with
  | zero => intro d e pc ls st h r hr; cases hr
  | succ n ih =>
    intro d e pc ls st h r hr
    unfold m_run at hr ⊢
    split at hr
    · cases hr
    · next ins aux hat =>
      split at hr
      · exact hr
      · split at hr
        · next y k hcall =>
          split at hr
          · cases hr
          · next d' =>
            split at hr
            · next hc =>
              rw [if_pos hc]
              split at hr
              · next v h1 hrun =>
                rw [ih _ _ _ _ _ _ _ hrun]
                exact ih _ _ _ _ _ _ _ hr
              · cases hr
            · cases hr
        · split at hr
          · next pc1 ls1 st1 h1 hop => exact ih _ _ _ _ _ _ _ hr
          · cases hr
theorem m_run_le {tab : List mM} {N : Nat} {xs : Nat → Int32} {n n' d : Nat} {e : mM} {pc : Nat} {ls : List (Option Value)} {st : List Value} {h : mH} {r : Option Value × mH} (hr : m_run tab N xs n d e pc ls st h = some r) (hn : n ≤ n') : m_run tab N xs n' d e pc ls st h = some r := by
  induction hn with
  | refl => exact hr
  | step _ ih => exact m_run_succ _ _ _ _ _ _ _ _ _ _ _ ih
def Rn (N : Nat) (xs : Nat → Int32) (d : Nat) (e : mM) (pc : Nat) (ls : List (Option Value)) (st : List Value) (h : mH) (r : Option Value × mH) : Prop := ∃ n, m_run m_tab N xs n d e pc ls st h = some r
/-- the pcs of a row of instructions grow -/
def m_srt : List mI → Bool
  | a :: b :: r => decide (a.1 < b.1) && m_srt (b :: r)
  | _ => true
theorem m_srt_lt : ∀ {cd : List mI} {a : mI}, m_srt (a :: cd) = true → ∀ q ∈ cd, a.1 < q.1 := by
  intro cd
  induction cd with
  | nil => intro a _ q hq; cases hq
  | cons b r ih =>
    intro a h q hq
    simp only [m_srt, Bool.and_eq_true, decide_eq_true_eq] at h
    rcases List.mem_cons.mp hq with rfl | hq
    · exact h.1
    · exact Nat.lt_trans h.1 (ih h.2 q hq)
theorem m_srt_at : ∀ {cd : List mI} {q : Nat} {ins : Instr} {aux : List Int}, m_srt cd = true → (q, ins, aux) ∈ cd → m_at cd q = some (ins, aux) := by
  intro cd
  induction cd with
  | nil => intro q ins aux _ hq; cases hq
  | cons a r ih =>
    intro q ins aux h hq
    obtain ⟨p, i, x⟩ := a
    rcases List.mem_cons.mp hq with e | hq
    · cases e; simp [m_at]
    · have hl := m_srt_lt h _ hq
      simp only at hl
      have hr : m_srt r = true := by
        cases r with
        | nil => rfl
        | cons b r => simp only [m_srt, Bool.and_eq_true] at h; exact h.2
      simp only [m_at, if_neg (show ¬ p = q by omega)]
      exact ih hr hq
/-- k instructions, one behind the other in the row, none of them a call or a return -/
def m_sq (N : Nat) (xs : Nat → Int32) : Nat → List mI → mF → Option mF
  | 0, _, f => some f
  | _ + 1, [], _ => none
  | k + 1, (q, ins, aux) :: r, f => if q = f.1 then match m_isRet ins with
      | true => none
      | false => match m_call m_tab ins aux with
        | some _ => none
        | none => match m_op N xs ins aux f.1 f.2.1 f.2.2.1 f.2.2.2 with
          | some f' => m_sq N xs k r f'
          | none => none
    else none
section RN
variable {N : Nat} {xs : Nat → Int32} {d pc pc' : Nat} {e y : mM} {ls ls' : List (Option Value)} {st st' : List Value} {h h1 : mH} {r : Option Value × mH} {ins : Instr} {aux : List Int}
theorem Rn_op (hat : m_at e.2.2.2.2.2.2.2 pc = some (ins, aux)) (hr : m_isRet ins = false) (hc : m_call m_tab ins aux = none) (hop : m_op N xs ins aux pc ls st h = some (pc', ls', st', h1)) (k : Rn N xs d e pc' ls' st' h1 r) : Rn N xs d e pc ls st h r := by
  obtain ⟨n, hn⟩ := k
  refine ⟨n + 1, ?_⟩
  unfold m_run
  simp only [hat, hr, hc, hop]
  exact hn
theorem Rn_sq_aux (hs : m_srt e.2.2.2.2.2.2.2 = true) : ∀ (k : Nat) (l : List mI) (f f' : mF), (∀ q ∈ l, q ∈ e.2.2.2.2.2.2.2) → m_sq N xs k l f = some f' → Rn N xs d e f'.1 f'.2.1 f'.2.2.1 f'.2.2.2 r → Rn N xs d e f.1 f.2.1 f.2.2.1 f.2.2.2 r := by
  intro k
  induction k with
  | zero => intro l f f' _ hq hr; simp only [m_sq, Option.some.injEq] at hq; subst hq; exact hr
  | succ k ih =>
    intro l f f' hl hq hr
    match l, hl, hq with
    | [], _, hq => cases hq
    | (q, ins, aux) :: rest, hl, hq =>
      unfold m_sq at hq
      split at hq
      · next e1 =>
        split at hq
        · cases hq
        · next e2 =>
          split at hq
          · cases hq
          · next e3 =>
            split at hq
            · next f1 e4 =>
              have hat := m_srt_at hs (hl _ List.mem_cons_self)
              rw [e1] at hat
              exact Rn_op (pc' := f1.1) (ls' := f1.2.1) (st' := f1.2.2.1) (h1 := f1.2.2.2) hat e2 e3 e4 (ih rest f1 f' (fun q hq => hl q (List.mem_cons_of_mem _ hq)) hq hr)
            · cases hq
      · cases hq
theorem Rn_sq (hs : m_srt e.2.2.2.2.2.2.2 = true) (p k : Nat) (hq : m_sq N xs k (e.2.2.2.2.2.2.2.drop p) (pc, ls, st, h) = some (pc', ls', st', h1)) (kk : Rn N xs d e pc' ls' st' h1 r) : Rn N xs d e pc ls st h r :=
  Rn_sq_aux hs k _ (pc, ls, st, h) (pc', ls', st', h1) (fun q hq => List.mem_of_mem_drop hq) hq kk
theorem Rn_ret {v : Option Value} (hs : m_srt e.2.2.2.2.2.2.2 = true) (p : Nat) (hp : (e.2.2.2.2.2.2.2)[p]? = some (pc, ins, aux)) (hi : m_isRet ins = true) (hr : m_ret e.2.2.2.2.1 ins st = some v) : Rn N xs d e pc ls st h (v, h) := by
  refine ⟨1, ?_⟩
  have hat := m_srt_at hs (List.mem_of_getElem? hp)
  unfold m_run
  simp only [hat, hi, hr]
theorem Rn_call {k : Nat} {v : Option Value} (hs : m_srt e.2.2.2.2.2.2.2 = true) (p : Nat) (hp : (e.2.2.2.2.2.2.2)[p]? = some (pc, ins, aux)) (hi : m_isRet ins = false) (hc : m_call m_tab ins aux = some (y, k)) (hcond : k ≤ st.length ∧ ((st.drop k).map fun v => v.category).sum ≤ 8 ∧ m_recv h y.1 y.2.2.2.2.2.1 (st.take k).reverse = true ∧ (m_en (st.take k).reverse).length ≤ y.2.2.2.1)
    (hy : Rn N xs d y 0 (m_en (st.take k).reverse ++ List.replicate (y.2.2.2.1 - (m_en (st.take k).reverse).length) none) [] h (v, h1)) (kk : Rn N xs (d + 1) e (pc + 3) ls (v.toList ++ st.drop k) h1 r) : Rn N xs (d + 1) e pc ls st h r := by
  obtain ⟨n1, h1'⟩ := hy
  obtain ⟨n2, h2'⟩ := kk
  refine ⟨max n1 n2 + 1, ?_⟩
  have hat := m_srt_at hs (List.mem_of_getElem? hp)
  unfold m_run
  simp only [hat, hi, hc, if_pos hcond, m_run_le h1' (Nat.le_max_left n1 n2)]
  exact m_run_le h2' (Nat.le_max_right n1 n2)
theorem Rn_if {c : Prop} [Decidable c] {a b : Nat} (ht : c → Rn N xs d e a ls st h r) (hf : ¬ c → Rn N xs d e b ls st h r) : Rn N xs d e (if c then a else b) ls st h r := by
  by_cases hc : c
  · rw [if_pos hc]; exact ht hc
  · rw [if_neg hc]; exact hf hc
end RN
/-- less known of the locals is enough -/
def m_nd (l : List (Option Value)) : Prop := ∀ (i : Nat) (x : UInt64), l[i]? ≠ some (some (.double x))
def m_le : List (Option Value) → List (Option Value) → Prop
  | [], [] => True
  | none :: a, _ :: b => m_le a b
  | some v :: a, o :: b => o = some v ∧ m_le a b
  | _, _ => False
theorem m_le_len : ∀ {a b : List (Option Value)}, m_le a b → a.length = b.length := by
  intro a
  induction a with
  | nil => intro b h; cases b with
    | nil => rfl
    | cons x b => cases h
  | cons o a ih =>
    intro b h
    cases b with
    | nil => cases o <;> cases h
    | cons x b =>
      cases o with
      | none => simp only [m_le] at h; simp [ih h]
      | some v => simp only [m_le] at h; simp [ih h.2]
theorem m_le_get : ∀ {a b : List (Option Value)}, m_le a b → ∀ (i : Nat) (v : Value), a[i]? = some (some v) → b[i]? = some (some v) := by
  intro a
  induction a with
  | nil => intro b h i v hi; simp at hi
  | cons o a ih =>
    intro b h i v hi
    cases b with
    | nil => cases o <;> cases h
    | cons x b =>
      cases o with
      | none =>
        simp only [m_le] at h
        cases i with
        | zero => simp at hi
        | succ i => simpa using ih h i v (by simpa using hi)
      | some w =>
        simp only [m_le] at h
        cases i with
        | zero => simp at hi; subst hi; simp [h.1]
        | succ i => simpa using ih h.2 i v (by simpa using hi)
theorem m_le_set : ∀ {a b : List (Option Value)}, m_le a b → ∀ (i : Nat) (o : Option Value), m_le (a.set i o) (b.set i o) := by
  intro a
  induction a with
  | nil => intro b h i o; cases b with
    | nil => simp [m_le]
    | cons x b => cases h
  | cons q a ih =>
    intro b h i o
    cases b with
    | nil => cases q <;> cases h
    | cons x b =>
      cases i with
      | zero =>
        cases q with
        | none => simp only [m_le] at h; cases o <;> simp [m_le, h]
        | some w => simp only [m_le] at h; cases o <;> simp [m_le, h.2]
      | succ i =>
        cases q with
        | none => simp only [m_le] at h; simpa [m_le] using ih h i o
        | some w => simp only [m_le] at h; simpa [m_le] using ⟨h.1, ih h.2 i o⟩
theorem m_le_setr : ∀ {a b : List (Option Value)}, m_le a b → ∀ (i : Nat) (o : Option Value), (∀ v, a[i]? ≠ some (some v)) → m_le a (b.set i o) := by
  intro a
  induction a with
  | nil => intro b h i o _; cases b with
    | nil => simp [m_le]
    | cons x b => cases h
  | cons q a ih =>
    intro b h i o hn
    cases b with
    | nil => cases q <;> cases h
    | cons x b =>
      cases i with
      | zero =>
        cases q with
        | none => simp only [m_le] at h; simpa [m_le] using h
        | some w => exact absurd (by simp) (hn w)
      | succ i =>
        have hn' : ∀ v, a[i]? ≠ some (some v) := fun v hv => hn v (by simpa using hv)
        cases q with
        | none => simp only [m_le] at h; simpa [m_le] using ih h i o hn'
        | some w => simp only [m_le] at h; simpa [m_le] using ⟨h.1, ih h.2 i o hn'⟩
theorem m_nd_set {l : List (Option Value)} (h : m_nd l) (i : Nat) {o : Option Value} (ho : ∀ x, o ≠ some (.double x)) : m_nd (l.set i o) := by
  intro j x hj
  by_cases hji : i = j
  · subst hji
    by_cases hl : i < l.length
    · rw [List.getElem?_set_self hl] at hj
      simp only [Option.some.injEq] at hj
      exact ho x hj
    · rw [List.getElem?_eq_none (by simp; omega)] at hj; cases hj
  · rw [List.getElem?_set_ne hji] at hj; exact h j x hj
theorem m_s1_le {a b a' : List (Option Value)} {i : Nat} {v : Value} (hv : ∀ x, v ≠ .double x) (h : m_le a b) (hb : m_nd b) (hs : m_s1 a i v = some a') : ∃ b', m_s1 b i v = some b' ∧ m_le a' b' ∧ m_nd b' := by
  unfold m_s1 at hs ⊢
  have hlen := m_le_len h
  have hn1 : ∀ {n : Nat}, m_nd (b.set n (some v)) := fun {n} => m_nd_set hb n (fun x q => hv x (Option.some.inj q))
  have hn2 : ∀ {n k : Nat}, m_nd ((b.set n (some v)).set k none) := fun {n k} => m_nd_set hn1 k (fun x q => by cases q)
  split at hs
  · next hi =>
    rw [if_pos (by omega)]
    cases i with
    | zero => cases hs; exact ⟨_, rfl, m_le_set h 0 _, hn1⟩
    | succ k =>
      simp only at hs ⊢
      split at hs
      · next x hk =>
        cases hs
        rw [m_le_get h k _ hk]
        exact ⟨_, rfl, m_le_set (m_le_set h _ _) _ _, hn2⟩
      · cases hs
      · next n1 n2 =>
        cases hs
        split
        · next x hk =>
          refine ⟨_, rfl, m_le_setr (m_le_set h _ _) _ _ (fun w hw => ?_), hn2⟩
          rw [List.getElem?_set_ne (by omega)] at hw
          have := m_le_get h k w hw
          rw [hk] at this
          cases this
          exact n1 x hw
        · next x hk => exact absurd hk (hb k x)
        · exact ⟨_, rfl, m_le_set h _ _, hn1⟩
  · cases hs
theorem m_s2_le {a b a' : List (Option Value)} {i : Nat} {v : Value} (hv : ∀ x, v ≠ .double x) (h : m_le a b) (hb : m_nd b) (hs : m_s2 a i v = some a') : ∃ b', m_s2 b i v = some b' ∧ m_le a' b' ∧ m_nd b' := by
  unfold m_s2 at hs ⊢
  have hlen := m_le_len h
  have hn1 : ∀ {n : Nat}, m_nd (b.set n (some v)) := fun {n} => m_nd_set hb n (fun x q => hv x (Option.some.inj q))
  have hn2 : ∀ {n k : Nat}, m_nd ((b.set n (some v)).set k none) := fun {n k} => m_nd_set hn1 k (fun x q => by cases q)
  have hn3 : ∀ {n k j : Nat}, m_nd (((b.set n (some v)).set k none).set j none) := fun {n k j} => m_nd_set hn2 j (fun x q => by cases q)
  split at hs
  · next hi =>
    rw [if_pos (by omega)]
    cases i with
    | zero => cases hs; exact ⟨_, rfl, m_le_set (m_le_set h 0 _) _ _, hn2⟩
    | succ k =>
      simp only at hs ⊢
      split at hs
      · next x hk =>
        cases hs
        rw [m_le_get h k _ hk]
        exact ⟨_, rfl, m_le_set (m_le_set (m_le_set h _ _) _ _) _ _, hn3⟩
      · cases hs
      · next n1 n2 =>
        cases hs
        split
        · next x hk =>
          refine ⟨_, rfl, m_le_setr (m_le_set (m_le_set h _ _) _ _) _ _ (fun w hw => ?_), hn3⟩
          rw [List.getElem?_set_ne (by omega), List.getElem?_set_ne (by omega)] at hw
          have := m_le_get h k w hw
          rw [hk] at this
          cases this
          exact n1 x hw
        · next x hk => exact absurd hk (hb k x)
        · exact ⟨_, rfl, m_le_set (m_le_set h _ _) _ _, hn2⟩
  · cases hs
theorem m_li_le {a b : List (Option Value)} {i : Nat} {x : Int32} (h : m_le a b) (hs : m_li a i = some x) : m_li b i = some x := by
  unfold m_li at hs ⊢
  split at hs
  · next y hy => rw [m_le_get h i _ hy]; exact hs
  · cases hs
theorem m_ll_le {a b : List (Option Value)} {i : Nat} {x : Int64} (h : m_le a b) (hs : m_ll a i = some x) : m_ll b i = some x := by
  unfold m_ll at hs ⊢
  split at hs
  · next y hy => rw [m_le_get h i _ hy]; exact hs
  · cases hs
theorem m_la_le {a b : List (Option Value)} {i : Nat} {x : Value} (h : m_le a b) (hs : m_la a i = some x) : m_la b i = some x := by
  unfold m_la at hs ⊢
  split at hs
  · next y hy => rw [m_le_get h i _ hy]; exact hs
  · next hy => rw [m_le_get h i _ hy]; exact hs
  · cases hs
set_option maxHeartbeats 1000000 in
theorem m_op1_le {ins : Instr} {aux : List Int} {pc pc' : Nat} {a b a' : List (Option Value)} {st st' : List Value} {h h' : mH} (hl : m_le a b) (hb : m_nd b) (ho : m_op1 ins aux pc a st h = some (pc', a', st', h')) : ∃ b', m_op1 ins aux pc b st h = some (pc', b', st', h') ∧ m_le a' b' ∧ m_nd b' := by
  cases ins <;> try (simp [m_op1] at ho; done)
  all_goals (simp only [m_op1] at ho ⊢)
  all_goals repeat' (split at ho)
  all_goals (try (cases ho; done))
  all_goals (try (next hq => cases ho; rw [m_li_le hl hq]; exact ⟨_, rfl, hl, hb⟩))
  all_goals (try (next hq => cases ho; rw [m_ll_le hl hq]; exact ⟨_, rfl, hl, hb⟩))
  all_goals (try (next hq => cases ho; rw [m_la_le hl hq]; exact ⟨_, rfl, hl, hb⟩))
  all_goals (try (next hq => cases ho; obtain ⟨b', e1, e2, e3⟩ := m_s1_le (by intro x q; cases q) hl hb hq; rw [e1]; exact ⟨_, rfl, e2, e3⟩))
  all_goals (try (next hq => cases ho; obtain ⟨b', e1, e2, e3⟩ := m_s2_le (by intro x q; cases q) hl hb hq; rw [e1]; exact ⟨_, rfl, e2, e3⟩))
  all_goals (try (next hq0 _ _ hq => cases ho; obtain ⟨b', e1, e2, e3⟩ := m_s1_le (by intro x q; cases q) hl hb hq; rw [m_li_le hl hq0]; simp only; rw [e1]; exact ⟨_, rfl, e2, e3⟩))
  all_goals first
    | (cases ho; exact ⟨_, rfl, hl, hb⟩)
    | (simp only [Option.some.injEq, Prod.mk.injEq] at ho; obtain ⟨rfl, rfl, rfl, rfl⟩ := ho; exact ⟨_, rfl, hl, hb⟩)
    | (simp_all; done)
set_option maxHeartbeats 1000000 in
theorem m_op2_fr {ins : Instr} {pc : Nat} (a b : List (Option Value)) {st : List Value} {h : mH} : m_op2 ins pc b st h = (m_op2 ins pc a st h).map (fun f => (f.1, b, f.2.2)) := by
  unfold m_op2
  split
  all_goals first
    | rfl
    | (repeat' (first | rfl | split))
theorem m_math_fr {aux : List Int} {pc : Nat} (a b : List (Option Value)) {st : List Value} {h : mH} : m_math aux pc b st h = (m_math aux pc a st h).map (fun f => (f.1, b, f.2.2)) := by
  unfold m_math
  split
  · next pl q x r => by_cases hc : (r.map fun v => v.category).sum ≤ 7 <;> simp only [hc, if_true, if_false] <;> rfl
  · next pl q y x r => by_cases hc : (r.map fun v => v.category).sum ≤ 7 <;> simp only [hc, if_true, if_false] <;> rfl
  · next pl q y x r => by_cases hc : (r.map fun v => v.category).sum ≤ 7 <;> simp only [hc, if_true, if_false] <;> rfl
  · next pl q y x r => by_cases hc : (r.map fun v => v.category).sum ≤ 7 <;> simp only [hc, if_true, if_false] <;> rfl
  · rfl
set_option maxHeartbeats 1000000 in
theorem m_op3_fr {N : Nat} {xs : Nat → Int32} {ins : Instr} {aux : List Int} {pc : Nat} (a b : List (Option Value)) {st : List Value} {h : mH} : m_op3 N xs ins aux pc b st h = (m_op3 N xs ins aux pc a st h).map (fun f => (f.1, b, f.2.2)) := by
  unfold m_op3
  split
  all_goals first
    | rfl
    | exact m_math_fr a b
    | (repeat' (first | rfl | split))
theorem m_fr_le {f : List (Option Value) → Option mF} (hf : ∀ a b, f b = (f a).map (fun f => (f.1, b, f.2.2))) {a b a' : List (Option Value)} {pc' : Nat} {st' : List Value} {h' : mH} (ho : f a = some (pc', a', st', h')) : a' = a ∧ f b = some (pc', b, st', h') := by
  have h1 := hf a a
  rw [ho] at h1
  have h2 := hf a b
  rw [ho] at h2
  refine ⟨?_, h2⟩
  simp only [Option.map_some, Option.some.injEq, Prod.mk.injEq, true_and, and_true] at h1
  exact h1
theorem m_op2_le {ins : Instr} {pc pc' : Nat} {a b a' : List (Option Value)} {st st' : List Value} {h h' : mH} (ho : m_op2 ins pc a st h = some (pc', a', st', h')) : a' = a ∧ m_op2 ins pc b st h = some (pc', b, st', h') :=
  m_fr_le (f := fun l => m_op2 ins pc l st h) (fun a b => m_op2_fr a b) ho
theorem m_op3_le {N : Nat} {xs : Nat → Int32} {ins : Instr} {aux : List Int} {pc pc' : Nat} {a b a' : List (Option Value)} {st st' : List Value} {h h' : mH} (ho : m_op3 N xs ins aux pc a st h = some (pc', a', st', h')) : a' = a ∧ m_op3 N xs ins aux pc b st h = some (pc', b, st', h') :=
  m_fr_le (f := fun l => m_op3 N xs ins aux pc l st h) (fun a b => m_op3_fr a b) ho
set_option maxHeartbeats 1000000 in
theorem m_op21 {ins : Instr} {aux : List Int} {pc : Nat} {a b : List (Option Value)} {st : List Value} {h : mH} {f : mF} (ho : m_op2 ins pc a st h = some f) : m_op1 ins aux pc b st h = none := by
  cases ins <;> first
    | rfl
    | (cases ho; done)
    | (simp [m_op2] at ho; done)
set_option maxHeartbeats 1000000 in
theorem m_op31 {N : Nat} {xs : Nat → Int32} {ins : Instr} {aux : List Int} {pc : Nat} {a b : List (Option Value)} {st : List Value} {h : mH} {f : mF} (ho : m_op3 N xs ins aux pc a st h = some f) : m_op1 ins aux pc b st h = none := by
  cases ins <;> first
    | rfl
    | (cases ho; done)
    | (simp [m_op3] at ho; done)
theorem m_op_le {N : Nat} {xs : Nat → Int32} {ins : Instr} {aux : List Int} {pc pc' : Nat} {a b a' : List (Option Value)} {st st' : List Value} {h h' : mH} (hl : m_le a b) (hb : m_nd b) (ho : m_op N xs ins aux pc a st h = some (pc', a', st', h')) : ∃ b', m_op N xs ins aux pc b st h = some (pc', b', st', h') ∧ m_le a' b' ∧ m_nd b' := by
  unfold m_op at ho ⊢
  split at ho
  · next f1 h1 =>
    cases Option.some.inj ho
    obtain ⟨b', e1, e2, e3⟩ := m_op1_le hl hb h1
    rw [e1]
    exact ⟨b', rfl, e2, e3⟩
  · next h1 =>
    split at ho
    · next f2 h2 =>
      cases Option.some.inj ho
      obtain ⟨e0, e1⟩ := m_op2_le (b := b) h2
      rw [m_op21 (aux := aux) (b := b) h2, e1, e0]
      exact ⟨b, rfl, hl, hb⟩
    · next h2 =>
      obtain ⟨e0, e1⟩ := m_op3_le (b := b) ho
      rw [m_op31 (b := b) ho, e0]
      have h2b : m_op2 ins pc b st h = none := by
        cases hx : m_op2 ins pc b st h with
        | none => rfl
        | some f =>
          obtain ⟨p, l, t, g⟩ := f
          have h3 := (m_op2_le (b := a) hx).2
          rw [h2] at h3
          cases h3
      rw [h2b, e1]
      exact ⟨b, rfl, hl, hb⟩
theorem m_run_weak {N : Nat} {xs : Nat → Int32} : ∀ (n d : Nat) (e : mM) (pc : Nat) (a b : List (Option Value)) (st : List Value) (h : mH) {r : Option Value × mH}, m_le a b → m_nd b → m_run m_tab N xs n d e pc a st h = some r → m_run m_tab N xs n d e pc b st h = some r := by
  intro n
  induction n with
  | zero => intro d e pc a b st h r _ _ hr; cases hr
  | succ n ih =>
    intro d e pc a b st h r hl hb hr
    unfold m_run at hr ⊢
    split at hr
    · cases hr
    · next ins aux hat =>
      split at hr
      · exact hr
      · split at hr
        · next y k hcall =>
          split at hr
          · cases hr
          · next d' =>
            split at hr
            · next hc =>
              rw [if_pos hc]
              split at hr
              · next v h1 hrun =>
                exact ih _ _ _ _ _ _ _ hl hb hr
              · cases hr
            · cases hr
        · split at hr
          · next pc1 ls1 st1 h1 hop =>
            obtain ⟨b', e1, e2, e3⟩ := m_op_le hl hb hop
            rw [e1]
            exact ih _ _ _ _ _ _ _ e2 e3 hr
          · cases hr
theorem m_run_dep {N : Nat} {xs : Nat → Int32} : ∀ (n d : Nat) (e : mM) (pc : Nat) (a : List (Option Value)) (st : List Value) (h : mH) {r : Option Value × mH} (k : Nat), m_run m_tab N xs n d e pc a st h = some r → m_run m_tab N xs n (d + k) e pc a st h = some r := by
  intro n
  induction n with
  | zero => intro d e pc a st h r k hr; cases hr
  | succ n ih =>
    intro d e pc a st h r k hr
    unfold m_run at hr ⊢
    split at hr
    · cases hr
    · next ins aux hat =>
      split at hr
      · exact hr
      · split at hr
        · next y kk hcall =>
          split at hr
          · cases hr
          · next d' =>
            split at hr
            · next hc =>
              rw [show d' + 1 + k = (d' + k) + 1 by omega]
              simp only [if_pos hc]
              split at hr
              · next v h1 hrun =>
                rw [ih _ _ _ _ _ _ k hrun]
                simp only
                rw [show (d' + k) + 1 = d' + 1 + k by omega]
                exact ih _ _ _ _ _ _ k hr
              · cases hr
            · cases hr
        · split at hr
          · next pc1 ls1 st1 h1 hop => exact ih _ _ _ _ _ _ k hr
          · cases hr
end
section
/-! the shapes of all cells, once both objects are made -/
def SH : List mS := [.inr (11, [.ref 1, .ref 18, .int 0, .ref 35, .ref 55, .ref 68, .ref 71, .ref 73, .ref 77, .ref 82, .ref 83]), .inr (2, [.ref 2, .ref 4, .ref 6, .ref 8, .ref 10, .ref 12, .ref 14, .ref 16, .int 0, .int 0, .int 0, .int 0]), .inr (10, [.int 0, .int 0, .ref 3, .int 0]), .inl (0, 132, []), .inr (10, [.int 0, .int 0, .ref 5, .int 0]), .inl (0, 750, []), .inr (10, [.int 0, .int 0, .ref 7, .int 0]), .inl (0, 64, []), .inr (10, [.int 0, .int 0, .ref 9, .int 0]), .inl (0, 400, []), .inr (10, [.int 0, .int 0, .ref 11, .int 0]), .inl (0, 12, []), .inr (10, [.int 0, .int 0, .ref 13, .int 0]), .inl (0, 48, []), .inr (10, [.int 0, .int 0, .ref 15, .int 0]), .inl (0, 32, []), .inr (10, [.int 0, .int 0, .ref 17, .int 0]), .inl (0, 24, []), .inr (2, [.ref 19, .ref 21, .ref 23, .ref 25, .ref 27, .ref 29, .ref 31, .ref 33, .int 0, .int 0, .int 0, .int 0]), .inr (10, [.int 0, .int 0, .ref 20, .int 0]), .inl (0, 132, []), .inr (10, [.int 0, .int 0, .ref 22, .int 0]), .inl (0, 750, []), .inr (10, [.int 0, .int 0, .ref 24, .int 0]), .inl (0, 64, []), .inr (10, [.int 0, .int 0, .ref 26, .int 0]), .inl (0, 400, []), .inr (10, [.int 0, .int 0, .ref 28, .int 0]), .inl (0, 12, []), .inr (10, [.int 0, .int 0, .ref 30, .int 0]), .inl (0, 48, []), .inr (10, [.int 0, .int 0, .ref 32, .int 0]), .inl (0, 32, []), .inr (10, [.int 0, .int 0, .ref 34, .int 0]), .inl (0, 24, []), .inr (5, [.ref 36, .int 0, .int 0]), .inl (2, 6, [some 37, some 40, some 43, some 46, some 49, some 52]), .inr (4, [.ref 38, .int 0, .int 0, .int 0]), .inr (10, [.int 0, .int 0, .ref 39, .int 0]), .inl (0, 132, []), .inr (4, [.ref 41, .int 0, .int 0, .int 0]), .inr (10, [.int 0, .int 0, .ref 42, .int 0]), .inl (0, 132, []), .inr (4, [.ref 44, .int 0, .int 0, .int 0]), .inr (10, [.int 0, .int 0, .ref 45, .int 0]), .inl (0, 132, []), .inr (4, [.ref 47, .int 0, .int 0, .int 0]), .inr (10, [.int 0, .int 0, .ref 48, .int 0]), .inl (0, 132, []), .inr (4, [.ref 50, .int 0, .int 0, .int 0]), .inr (10, [.int 0, .int 0, .ref 51, .int 0]), .inl (0, 132, []), .inr (4, [.ref 53, .int 0, .int 0, .int 0]), .inr (10, [.int 0, .int 0, .ref 54, .int 0]), .inl (0, 132, []), .inr (7, [.ref 56, .ref 58, .ref 60, .ref 62, .ref 64, .ref 65, .ref 67, .int 0, .int 0, .int 0, .int 0, .int 0, .int 0, .int 0, .int 0, .int 0, .int 0]), .inr (10, [.int 0, .int 0, .ref 57, .int 0]), .inl (0, 64, []), .inr (10, [.int 0, .int 0, .ref 59, .int 0]), .inl (0, 400, []), .inr (10, [.int 0, .int 0, .ref 61, .int 0]), .inl (0, 12, []), .inr (10, [.int 0, .int 0, .ref 63, .int 0]), .inl (0, 48, []), .inl (0, 400, []), .inr (10, [.int 0, .int 0, .ref 66, .int 0]), .inl (0, 1203, []), .inl (0, 64, []), .inr (3, [.ref 1, .ref 69, .ref 70]), .inl (0, 9, []), .inl (0, 64, []), .inr (6, [.ref 1, .ref 68, .ref 72]), .inl (0, 5, []), .inr (0, [.ref 1, .ref 68, .ref 74, .ref 75, .ref 76]), .inl (0, 6, []), .inl (0, 13, []), .inl (0, 12, []), .inr (1, [.ref 1, .ref 68, .ref 78, .ref 80]), .inr (10, [.int 0, .int 0, .ref 79, .int 0]), .inl (0, 48, []), .inr (10, [.int 0, .int 0, .ref 81, .int 0]), .inl (0, 48, []), .inr (8, [.ref 1]), .inr (9, [.ref 1, .ref 73, .ref 84, .ref 85, .ref 86, .ref 87, .int 0, .long 0]), .inl (0, 8, []), .inl (0, 4, []), .inl (0, 4, []), .inl (0, 4, []), .inr (12, [.ref 89, .ref 90, .ref 91, .int 0, .int 0, .ref 92, .ref 93, .ref 94, .ref 95, .ref 96, .ref 97, .int 0, .int 0, .int 0, .int 0, .int 0, .int 0, .int 0, .int 0, .int 0, .int 0, .int 0, .int 0, .int 0, .int 0, .int 0, .ref 98, .ref 99, .ref 100, .ref 101, .ref 102, .long 0, .int 0, .ref 103, .ref 104]), .inl (0, 1894, []), .inl (0, 1894, []), .inl (0, 672, []), .inl (0, 64, []), .inl (0, 820, []), .inl (0, 48, []), .inl (0, 400, []), .inl (0, 420, []), .inl (0, 10, []), .inl (1, 13, []), .inl (1, 14, []), .inl (1, 4, []), .inl (0, 4, []), .inl (0, 4, []), .inl (0, 48, []), .inl (0, 50, [])]
theorem sh3 : SH[3]? = some (.inl (0, 132, [])) := rfl
theorem sh5 : SH[5]? = some (.inl (0, 750, [])) := rfl
theorem sh7 : SH[7]? = some (.inl (0, 64, [])) := rfl
theorem sh9 : SH[9]? = some (.inl (0, 400, [])) := rfl
theorem sh11 : SH[11]? = some (.inl (0, 12, [])) := rfl
theorem sh13 : SH[13]? = some (.inl (0, 48, [])) := rfl
theorem sh15 : SH[15]? = some (.inl (0, 32, [])) := rfl
theorem sh17 : SH[17]? = some (.inl (0, 24, [])) := rfl
theorem sh20 : SH[20]? = some (.inl (0, 132, [])) := rfl
theorem sh22 : SH[22]? = some (.inl (0, 750, [])) := rfl
theorem sh24 : SH[24]? = some (.inl (0, 64, [])) := rfl
theorem sh26 : SH[26]? = some (.inl (0, 400, [])) := rfl
theorem sh28 : SH[28]? = some (.inl (0, 12, [])) := rfl
theorem sh30 : SH[30]? = some (.inl (0, 48, [])) := rfl
theorem sh32 : SH[32]? = some (.inl (0, 32, [])) := rfl
theorem sh34 : SH[34]? = some (.inl (0, 24, [])) := rfl
theorem sh39 : SH[39]? = some (.inl (0, 132, [])) := rfl
theorem sh42 : SH[42]? = some (.inl (0, 132, [])) := rfl
theorem sh45 : SH[45]? = some (.inl (0, 132, [])) := rfl
theorem sh48 : SH[48]? = some (.inl (0, 132, [])) := rfl
theorem sh51 : SH[51]? = some (.inl (0, 132, [])) := rfl
theorem sh54 : SH[54]? = some (.inl (0, 132, [])) := rfl
theorem sh57 : SH[57]? = some (.inl (0, 64, [])) := rfl
theorem sh59 : SH[59]? = some (.inl (0, 400, [])) := rfl
theorem sh61 : SH[61]? = some (.inl (0, 12, [])) := rfl
theorem sh63 : SH[63]? = some (.inl (0, 48, [])) := rfl
theorem sh64 : SH[64]? = some (.inl (0, 400, [])) := rfl
theorem sh66 : SH[66]? = some (.inl (0, 1203, [])) := rfl
theorem sh67 : SH[67]? = some (.inl (0, 64, [])) := rfl
theorem sh69 : SH[69]? = some (.inl (0, 9, [])) := rfl
theorem sh70 : SH[70]? = some (.inl (0, 64, [])) := rfl
theorem sh72 : SH[72]? = some (.inl (0, 5, [])) := rfl
theorem sh74 : SH[74]? = some (.inl (0, 6, [])) := rfl
theorem sh75 : SH[75]? = some (.inl (0, 13, [])) := rfl
theorem sh76 : SH[76]? = some (.inl (0, 12, [])) := rfl
theorem sh79 : SH[79]? = some (.inl (0, 48, [])) := rfl
theorem sh81 : SH[81]? = some (.inl (0, 48, [])) := rfl
theorem sh84 : SH[84]? = some (.inl (0, 8, [])) := rfl
theorem sh85 : SH[85]? = some (.inl (0, 4, [])) := rfl
theorem sh86 : SH[86]? = some (.inl (0, 4, [])) := rfl
theorem sh87 : SH[87]? = some (.inl (0, 4, [])) := rfl
theorem sh89 : SH[89]? = some (.inl (0, 1894, [])) := rfl
theorem sh90 : SH[90]? = some (.inl (0, 1894, [])) := rfl
theorem sh91 : SH[91]? = some (.inl (0, 672, [])) := rfl
theorem sh92 : SH[92]? = some (.inl (0, 64, [])) := rfl
theorem sh93 : SH[93]? = some (.inl (0, 820, [])) := rfl
theorem sh94 : SH[94]? = some (.inl (0, 48, [])) := rfl
theorem sh95 : SH[95]? = some (.inl (0, 400, [])) := rfl
theorem sh96 : SH[96]? = some (.inl (0, 420, [])) := rfl
theorem sh97 : SH[97]? = some (.inl (0, 10, [])) := rfl
theorem sh98 : SH[98]? = some (.inl (1, 13, [])) := rfl
theorem sh99 : SH[99]? = some (.inl (1, 14, [])) := rfl
theorem sh100 : SH[100]? = some (.inl (1, 4, [])) := rfl
theorem sh101 : SH[101]? = some (.inl (0, 4, [])) := rfl
theorem sh102 : SH[102]? = some (.inl (0, 4, [])) := rfl
theorem sh103 : SH[103]? = some (.inl (0, 48, [])) := rfl
theorem sh104 : SH[104]? = some (.inl (0, 50, [])) := rfl
def m_alen (j : Nat) : Nat := match SH[j]? with
  | some (.inl (_, n, _)) => n
  | _ => 0
/-- a Table, a House, a Moment stands there -/
def isT (t : Nat) : Prop := SH[t]? = some (.inr (10, [.int 0, .int 0, .ref (t + 1), .int 0])) ∧ SH[t + 1]? = some (.inl (0, m_alen (t + 1), []))
def isH (t : Nat) : Prop := SH[t]? = some (.inr (2, [.ref (t + 1), .ref (t + 3), .ref (t + 5), .ref (t + 7), .ref (t + 9), .ref (t + 11), .ref (t + 13), .ref (t + 15), .int 0, .int 0, .int 0, .int 0])) ∧ ∀ k, k < 8 → isT (t + (2 * k + 1))
def isM (t : Nat) : Prop := SH[t]? = some (.inr (4, [.ref (t + 1), .int 0, .int 0, .int 0])) ∧ isT (t + 1)
theorem isH_t {t : Nat} (h : isH t) (k : Nat) (hk : k < 8) : isT (t + (2 * k + 1)) := h.2 k hk
theorem isT_2 : isT 2 := ⟨rfl, rfl⟩
theorem isT_4 : isT 4 := ⟨rfl, rfl⟩
theorem isT_6 : isT 6 := ⟨rfl, rfl⟩
theorem isT_8 : isT 8 := ⟨rfl, rfl⟩
theorem isT_10 : isT 10 := ⟨rfl, rfl⟩
theorem isT_12 : isT 12 := ⟨rfl, rfl⟩
theorem isT_14 : isT 14 := ⟨rfl, rfl⟩
theorem isT_16 : isT 16 := ⟨rfl, rfl⟩
theorem isT_19 : isT 19 := ⟨rfl, rfl⟩
theorem isT_21 : isT 21 := ⟨rfl, rfl⟩
theorem isT_23 : isT 23 := ⟨rfl, rfl⟩
theorem isT_25 : isT 25 := ⟨rfl, rfl⟩
theorem isT_27 : isT 27 := ⟨rfl, rfl⟩
theorem isT_29 : isT 29 := ⟨rfl, rfl⟩
theorem isT_31 : isT 31 := ⟨rfl, rfl⟩
theorem isT_33 : isT 33 := ⟨rfl, rfl⟩
theorem isT_38 : isT 38 := ⟨rfl, rfl⟩
theorem isT_41 : isT 41 := ⟨rfl, rfl⟩
theorem isT_44 : isT 44 := ⟨rfl, rfl⟩
theorem isT_47 : isT 47 := ⟨rfl, rfl⟩
theorem isT_50 : isT 50 := ⟨rfl, rfl⟩
theorem isT_53 : isT 53 := ⟨rfl, rfl⟩
theorem isT_56 : isT 56 := ⟨rfl, rfl⟩
theorem isT_58 : isT 58 := ⟨rfl, rfl⟩
theorem isT_60 : isT 60 := ⟨rfl, rfl⟩
theorem isT_62 : isT 62 := ⟨rfl, rfl⟩
theorem isT_65 : isT 65 := ⟨rfl, rfl⟩
theorem isT_78 : isT 78 := ⟨rfl, rfl⟩
theorem isT_80 : isT 80 := ⟨rfl, rfl⟩
theorem isH_1 : isH 1 := ⟨rfl, fun k hk => match k, hk with
  | 0, _ => isT_2
  | 1, _ => isT_4
  | 2, _ => isT_6
  | 3, _ => isT_8
  | 4, _ => isT_10
  | 5, _ => isT_12
  | 6, _ => isT_14
  | 7, _ => isT_16
  | k + 8, hk => absurd hk (by omega)⟩
theorem isH_18 : isH 18 := ⟨rfl, fun k hk => match k, hk with
  | 0, _ => isT_19
  | 1, _ => isT_21
  | 2, _ => isT_23
  | 3, _ => isT_25
  | 4, _ => isT_27
  | 5, _ => isT_29
  | 6, _ => isT_31
  | 7, _ => isT_33
  | k + 8, hk => absurd hk (by omega)⟩
theorem isM_37 : isM 37 := ⟨rfl, isT_38⟩
theorem isM_40 : isM 40 := ⟨rfl, isT_41⟩
theorem isM_43 : isM 43 := ⟨rfl, isT_44⟩
theorem isM_46 : isM 46 := ⟨rfl, isT_47⟩
theorem isM_49 : isM 49 := ⟨rfl, isT_50⟩
theorem isM_52 : isM 52 := ⟨rfl, isT_53⟩
end
section
/-! RULES FOR THE PRINTED FUNCTIONS -/
abbrev mG : Type := (Nat → Nat → Int32) × (Nat → Nat → Int64)
abbrev ci (n : Int) : Int32 := Int32.ofInt n
abbrev c8 (n : Int) : Int32 := (Int8.ofInt n).toInt32
abbrev c16 (n : Int) : Int32 := (Int16.ofInt n).toInt32
abbrev cn (n : Nat) : Int32 := Int32.ofNat n
abbrev cz (n : Fin 2) : Int64 := Int64.ofNat (n : Nat)
abbrev cl (n : Int) : Int64 := Int64.ofInt n
abbrev ushr (x y : Int32) : Int32 := (x.toUInt32 >>> (y.toUInt32 &&& Int32.toUInt32 31)).toInt32
abbrev rm (x y : Int32) : Int32 := x - x / y * y
abbrev iabs (x : Int32) : Int32 := if 0 ≤ x then x else 0 - x
abbrev imax (x y : Int32) : Int32 := if x < y then y else x
abbrev imin (x y : Int32) : Int32 := if y < x then y else x
abbrev lmax (x y : Int64) : Int64 := if y < x then x else y
abbrev optv (o : Option Nat) : Option Value := match o with
  | some a => some (.ref a)
  | none => some .null
def mal (j : Nat) : Option Nat := match SH[j]? with
  | some (.inl (k, n, _)) => if k < 3 then some n else none
  | some (.inr _) => none
  | none => if j = 1000001 then some 5 else if 1000200 ≤ j ∧ j < 1000227 then some (m_sb.getD (j - 1000200) []).length else none
def mia (s : mG) (j : Nat) (i : Int32) : Option Int32 := match SH[j]? with
  | some (.inl (0, n, _)) => if i < 0 ∨ n ≤ i.toNatClampNeg then none else some (s.1 j i.toNatClampNeg)
  | some _ => none
  | none => if j = 1000001 then (if i < 0 ∨ 5 ≤ i.toNatClampNeg then none else some (m_unt.getD i.toNatClampNeg 0)) else none
/-- a loop, as often as it goes -/
def lp {σ ρ : Type} (body : σ → Option (σ ⊕ ρ)) : Nat → σ → Option ρ
  | 0, _ => none
  | n + 1, v => match body v with
    | none => none
    | some (.inl v') => lp body n v'
    | some (.inr a) => some a
theorem lp_succ {σ ρ : Type} {body : σ → Option (σ ⊕ ρ)} : ∀ {n : Nat} {v : σ} {a : ρ}, lp body n v = some a → lp body (n + 1) v = some a := by
  intro n
  induction n with
  | zero => intro v a h; cases h
  | succ n ih =>
    intro v a h
    unfold lp at h ⊢
    split at h
    · cases h
    · exact ih h
    · exact h
theorem lp_le {σ ρ : Type} {body : σ → Option (σ ⊕ ρ)} {n n' : Nat} {v : σ} {a : ρ} (h : lp body n v = some a) (hn : n ≤ n') : lp body n' v = some a := by
  induction hn with
  | refl => exact h
  | step _ ih => exact lp_succ ih
noncomputable def whl {σ ρ : Type} (body : σ → Option (σ ⊕ ρ)) (v : σ) : Option ρ := Classical.epsilon (fun o : Option ρ => (∃ n, lp body n v = o ∧ o ≠ none) ∨ (o = none ∧ ∀ n, lp body n v = none))
theorem whl_spec {σ ρ : Type} {body : σ → Option (σ ⊕ ρ)} {v : σ} {a : ρ} : whl body v = some a ↔ ∃ n, lp body n v = some a := by
  have hex : ∃ o : Option ρ, (∃ n, lp body n v = o ∧ o ≠ none) ∨ (o = none ∧ ∀ n, lp body n v = none) := by
    by_cases h : ∃ n, lp body n v ≠ none
    · obtain ⟨n, hn⟩ := h
      exact ⟨_, Or.inl ⟨n, rfl, hn⟩⟩
    · refine ⟨none, Or.inr ⟨rfl, fun n => ?_⟩⟩
      by_cases q : lp body n v = none
      · exact q
      · exact absurd ⟨n, q⟩ h
  have hs := Classical.epsilon_spec hex
  change (∃ n, lp body n v = whl body v ∧ whl body v ≠ none) ∨ (whl body v = none ∧ ∀ n, lp body n v = none) at hs
  constructor
  · intro h
    rw [h] at hs
    rcases hs with ⟨n, hn, -⟩ | ⟨hn, -⟩
    · exact ⟨n, hn⟩
    · cases hn
  · rintro ⟨n, hn⟩
    rcases hs with ⟨m, hm, hne⟩ | ⟨-, hall⟩
    · cases hw : whl body v with
      | none => exact absurd hw hne
      | some b =>
        rw [hw] at hm
        have h1 := lp_le hn (Nat.le_max_left n m)
        have h2 := lp_le hm (Nat.le_max_right n m)
        rw [h1] at h2
        exact h2.symm
    · rw [hall n] at hn; cases hn
theorem whl_eq {σ ρ : Type} (body : σ → Option (σ ⊕ ρ)) (v : σ) : whl body v = match body v with
    | none => none
    | some (.inl v') => whl body v'
    | some (.inr a) => some a := by
  apply Option.ext
  intro a
  rw [whl_spec]
  constructor
  · rintro ⟨n, hn⟩
    cases n with
    | zero => cases hn
    | succ n =>
      unfold lp at hn
      split at hn
      · cases hn
      · exact whl_spec.mpr ⟨n, hn⟩
      · exact hn
  · intro h
    split at h
    · cases h
    · next v' hv =>
      obtain ⟨n, hn⟩ := whl_spec.mp h
      exact ⟨n + 1, by unfold lp; rw [hv]; exact hn⟩
    · next b hv => exact ⟨1, by unfold lp; rw [hv]; exact h⟩
theorem whl_link {σ ρ : Type} {body : σ → Option (σ ⊕ ρ)} {P : σ → Prop} {C : σ ⊕ ρ → Prop} {C' : ρ → Prop} (hb : ∀ v τ, body v = some τ → C τ → P v) (h1 : ∀ v, P v → C (.inl v)) (h2 : ∀ a, C' a → C (.inr a)) : ∀ v τ', whl body v = some τ' → C' τ' → P v := by
  intro v τ' hw hc
  obtain ⟨n, hn⟩ := whl_spec.mp hw
  induction n generalizing v with
  | zero => cases hn
  | succ n ih =>
    unfold lp at hn
    split at hn
    · cases hn
    · next v' hv => exact hb v _ hv (h1 _ (ih v' (whl_spec.mpr ⟨n, hn⟩) hn))
    · next a hv => cases hn; exact hb v _ hv (h2 _ hc)
def m_ndb : List (Option Value) → Bool
  | [] => true
  | some (.double _) :: _ => false
  | _ :: r => m_ndb r
theorem m_ndb_ok : ∀ {l : List (Option Value)}, m_ndb l = true → m_nd l := by
  intro l
  induction l with
  | nil => intro _ i x h; simp at h
  | cons a r ih =>
    intro h i x hi
    have hr : m_ndb r = true := by
      cases a with
      | none => exact h
      | some v => cases v <;> first | exact h | cases h
    cases i with
    | zero =>
      simp at hi
      subst hi
      simp [m_ndb] at h
    | succ i => exact ih hr i x (by simpa using hi)
section R2
variable {N : Nat} {xs : Nat → Int32} {d pc pc' : Nat} {e y : mM} {ls ls' : List (Option Value)} {st st' : List Value} {h h1 : mH} {r : Option Value × mH} {ins : Instr} {aux : List Int}
theorem Rn_weaken {a b : List (Option Value)} (hle : m_le a b) (hnd : m_ndb b = true) (hr : Rn N xs d e pc a st h r) : Rn N xs d e pc b st h r := by
  obtain ⟨n, hn⟩ := hr
  exact ⟨n, m_run_weak n _ _ _ _ _ _ _ hle (m_ndb_ok hnd) hn⟩
theorem Rn_ev (hs : m_srt e.2.2.2.2.2.2.2 = true) (p : Nat) (hp : (e.2.2.2.2.2.2.2)[p]? = some (pc, ins, aux)) (hi : m_isRet ins = false) (hc : m_call m_tab ins aux = none) (hop : m_op N xs ins aux pc ls st h = some (pc', ls', st', h1)) (kk : Rn N xs d e pc' ls' st' h1 r) : Rn N xs d e pc ls st h r :=
  Rn_op (m_srt_at hs (List.mem_of_getElem? hp)) hi hc hop kk
theorem Rn_dep (k : Nat) (hr : Rn N xs d e pc ls st h r) : Rn N xs (d + k) e pc ls st h r := by
  obtain ⟨n, hn⟩ := hr
  exact ⟨n, m_run_dep n _ _ _ _ _ _ k hn⟩
end R2
section R3
variable {N : Nat} {xs : Nat → Int32} {pc i0 : Nat} {ls : List (Option Value)} {st : List Value} {s : mG} {aux : List Int} {a3 a4 a5 : Int} {t j n k : Nat} {q : List (Option Nat)} {i x y : Int32} {u w : Int64}
theorem op_gfT0 (h : isT t) : m_op N xs (.getfield i0) [10, 0, a3, a4, a5] pc ls (.ref t :: st) (SH, s) = some (pc + 3, ls, .int (s.1 t 0) :: st, (SH, s)) := by simp [m_op, m_op1, m_op2, m_op3, m_gf, h.1]
theorem op_gfT1 (h : isT t) : m_op N xs (.getfield i0) [10, 1, a3, a4, a5] pc ls (.ref t :: st) (SH, s) = some (pc + 3, ls, .int (s.1 t 1) :: st, (SH, s)) := by simp [m_op, m_op1, m_op2, m_op3, m_gf, h.1]
theorem op_gfT2 (h : isT t) : m_op N xs (.getfield i0) [10, 2, a3, a4, a5] pc ls (.ref t :: st) (SH, s) = some (pc + 3, ls, .ref (t + 1) :: st, (SH, s)) := by simp [m_op, m_op1, m_op2, m_op3, m_gf, h.1]
theorem op_gfT3 (h : isT t) : m_op N xs (.getfield i0) [10, 3, a3, a4, a5] pc ls (.ref t :: st) (SH, s) = some (pc + 3, ls, .int (s.1 t 3) :: st, (SH, s)) := by simp [m_op, m_op1, m_op2, m_op3, m_gf, h.1]
theorem op_gfH0 (h : isH t) : m_op N xs (.getfield i0) [2, 0, a3, a4, a5] pc ls (.ref t :: st) (SH, s) = some (pc + 3, ls, .ref (t + 1) :: st, (SH, s)) := by simp [m_op, m_op1, m_op2, m_op3, m_gf, h.1]
theorem op_gfH1 (h : isH t) : m_op N xs (.getfield i0) [2, 1, a3, a4, a5] pc ls (.ref t :: st) (SH, s) = some (pc + 3, ls, .ref (t + 3) :: st, (SH, s)) := by simp [m_op, m_op1, m_op2, m_op3, m_gf, h.1]
theorem op_gfH2 (h : isH t) : m_op N xs (.getfield i0) [2, 2, a3, a4, a5] pc ls (.ref t :: st) (SH, s) = some (pc + 3, ls, .ref (t + 5) :: st, (SH, s)) := by simp [m_op, m_op1, m_op2, m_op3, m_gf, h.1]
theorem op_gfH3 (h : isH t) : m_op N xs (.getfield i0) [2, 3, a3, a4, a5] pc ls (.ref t :: st) (SH, s) = some (pc + 3, ls, .ref (t + 7) :: st, (SH, s)) := by simp [m_op, m_op1, m_op2, m_op3, m_gf, h.1]
theorem op_gfH4 (h : isH t) : m_op N xs (.getfield i0) [2, 4, a3, a4, a5] pc ls (.ref t :: st) (SH, s) = some (pc + 3, ls, .ref (t + 9) :: st, (SH, s)) := by simp [m_op, m_op1, m_op2, m_op3, m_gf, h.1]
theorem op_gfH5 (h : isH t) : m_op N xs (.getfield i0) [2, 5, a3, a4, a5] pc ls (.ref t :: st) (SH, s) = some (pc + 3, ls, .ref (t + 11) :: st, (SH, s)) := by simp [m_op, m_op1, m_op2, m_op3, m_gf, h.1]
theorem op_gfH6 (h : isH t) : m_op N xs (.getfield i0) [2, 6, a3, a4, a5] pc ls (.ref t :: st) (SH, s) = some (pc + 3, ls, .ref (t + 13) :: st, (SH, s)) := by simp [m_op, m_op1, m_op2, m_op3, m_gf, h.1]
theorem op_gfH7 (h : isH t) : m_op N xs (.getfield i0) [2, 7, a3, a4, a5] pc ls (.ref t :: st) (SH, s) = some (pc + 3, ls, .ref (t + 15) :: st, (SH, s)) := by simp [m_op, m_op1, m_op2, m_op3, m_gf, h.1]
theorem op_gfH8 (h : isH t) : m_op N xs (.getfield i0) [2, 8, a3, a4, a5] pc ls (.ref t :: st) (SH, s) = some (pc + 3, ls, .int (s.1 t 8) :: st, (SH, s)) := by simp [m_op, m_op1, m_op2, m_op3, m_gf, h.1]
theorem op_gfH9 (h : isH t) : m_op N xs (.getfield i0) [2, 9, a3, a4, a5] pc ls (.ref t :: st) (SH, s) = some (pc + 3, ls, .int (s.1 t 9) :: st, (SH, s)) := by simp [m_op, m_op1, m_op2, m_op3, m_gf, h.1]
theorem op_gfH10 (h : isH t) : m_op N xs (.getfield i0) [2, 10, a3, a4, a5] pc ls (.ref t :: st) (SH, s) = some (pc + 3, ls, .int (s.1 t 10) :: st, (SH, s)) := by simp [m_op, m_op1, m_op2, m_op3, m_gf, h.1]
theorem op_gfH11 (h : isH t) : m_op N xs (.getfield i0) [2, 11, a3, a4, a5] pc ls (.ref t :: st) (SH, s) = some (pc + 3, ls, .int (s.1 t 11) :: st, (SH, s)) := by simp [m_op, m_op1, m_op2, m_op3, m_gf, h.1]
theorem op_gfM0 (h : isM t) : m_op N xs (.getfield i0) [4, 0, a3, a4, a5] pc ls (.ref t :: st) (SH, s) = some (pc + 3, ls, .ref (t + 1) :: st, (SH, s)) := by simp [m_op, m_op1, m_op2, m_op3, m_gf, h.1]
theorem op_gfM1 (h : isM t) : m_op N xs (.getfield i0) [4, 1, a3, a4, a5] pc ls (.ref t :: st) (SH, s) = some (pc + 3, ls, .int (s.1 t 1) :: st, (SH, s)) := by simp [m_op, m_op1, m_op2, m_op3, m_gf, h.1]
theorem op_gfM2 (h : isM t) : m_op N xs (.getfield i0) [4, 2, a3, a4, a5] pc ls (.ref t :: st) (SH, s) = some (pc + 3, ls, .int (s.1 t 2) :: st, (SH, s)) := by simp [m_op, m_op1, m_op2, m_op3, m_gf, h.1]
theorem op_gfM3 (h : isM t) : m_op N xs (.getfield i0) [4, 3, a3, a4, a5] pc ls (.ref t :: st) (SH, s) = some (pc + 3, ls, .int (s.1 t 3) :: st, (SH, s)) := by simp [m_op, m_op1, m_op2, m_op3, m_gf, h.1]
theorem op_pfT3 (h : isT t) : m_op N xs (.putfield i0) [10, 3, a3, 0, a5] pc ls (.int x :: .ref t :: st) (SH, s) = some (pc + 3, ls, st, (SH, (mu s.1 t 3 x, s.2))) := by simp [m_op, m_op1, m_op2, m_op3, m_pf, h.1]
theorem op_pfH8 (h : isH t) : m_op N xs (.putfield i0) [2, 8, a3, 0, a5] pc ls (.int x :: .ref t :: st) (SH, s) = some (pc + 3, ls, st, (SH, (mu s.1 t 8 x, s.2))) := by simp [m_op, m_op1, m_op2, m_op3, m_pf, h.1]
theorem op_pfH9 (h : isH t) : m_op N xs (.putfield i0) [2, 9, a3, 0, a5] pc ls (.int x :: .ref t :: st) (SH, s) = some (pc + 3, ls, st, (SH, (mu s.1 t 9 x, s.2))) := by simp [m_op, m_op1, m_op2, m_op3, m_pf, h.1]
theorem op_pfH10 (h : isH t) : m_op N xs (.putfield i0) [2, 10, a3, 0, a5] pc ls (.int x :: .ref t :: st) (SH, s) = some (pc + 3, ls, st, (SH, (mu s.1 t 10 x, s.2))) := by simp [m_op, m_op1, m_op2, m_op3, m_pf, h.1]
theorem op_pfH11 (h : isH t) : m_op N xs (.putfield i0) [2, 11, a3, 0, a5] pc ls (.int x :: .ref t :: st) (SH, s) = some (pc + 3, ls, st, (SH, (mu s.1 t 11 x, s.2))) := by simp [m_op, m_op1, m_op2, m_op3, m_pf, h.1]
theorem op_pfM1 (h : isM t) : m_op N xs (.putfield i0) [4, 1, a3, 0, a5] pc ls (.int x :: .ref t :: st) (SH, s) = some (pc + 3, ls, st, (SH, (mu s.1 t 1 x, s.2))) := by simp [m_op, m_op1, m_op2, m_op3, m_pf, h.1]
theorem op_pfM2 (h : isM t) : m_op N xs (.putfield i0) [4, 2, a3, 0, a5] pc ls (.int x :: .ref t :: st) (SH, s) = some (pc + 3, ls, st, (SH, (mu s.1 t 2 x, s.2))) := by simp [m_op, m_op1, m_op2, m_op3, m_pf, h.1]
theorem op_pfM3 (h : isM t) : m_op N xs (.putfield i0) [4, 3, a3, 0, a5] pc ls (.int x :: .ref t :: st) (SH, s) = some (pc + 3, ls, st, (SH, (mu s.1 t 3 x, s.2))) := by simp [m_op, m_op1, m_op2, m_op3, m_pf, h.1]
theorem op_alT (h : isT t) : m_op N xs .arraylength aux pc ls (.ref (t + 1) :: st) (SH, s) = some (pc + 1, ls, .int (cn (m_alen (t + 1))) :: st, (SH, s)) := by simp [m_op, m_op1, m_op2, m_op3, m_al, h.2]
theorem op_alv (h : mal j = some n) : m_op N xs .arraylength aux pc ls (.ref j :: st) (SH, s) = some (pc + 1, ls, .int (cn n) :: st, (SH, s)) := by
  have h2 : m_al N (SH, s) j = some n := by
    unfold mal at h
    unfold m_al
    split at h
    · next hs => simp only [hs]; exact h
    · cases h
    · next hs =>
      simp only [hs]
      by_cases h0 : j = 1000000
      · subst h0; simp at h
      · rw [if_neg h0]; exact h
  simp [m_op, m_op1, m_op2, m_op3, h2]
theorem op_iav {v : Int32} (h : mia s j i = some v) : m_op N xs .iaload aux pc ls (.int i :: .ref j :: st) (SH, s) = some (pc + 1, ls, .int v :: st, (SH, s)) := by
  have h2 : m_ia N xs (SH, s) j i = some v := by
    unfold mia at h
    unfold m_ia
    split at h
    · next hs => simp only [hs]; exact h
    · cases h
    · next hs =>
      simp only [hs]
      by_cases h0 : j = 1000000
      · subst h0; simp at h
      · rw [if_neg h0]; exact h
  simp [m_op, m_op1, m_op2, m_op3, h2]
theorem op_ia (hj : SH[j]? = some (.inl (0, n, q))) (hin : ¬ (i < 0 ∨ n ≤ i.toNatClampNeg)) {k : Nat} (hk : i.toNatClampNeg = k) : m_op N xs .iaload aux pc ls (.int i :: .ref j :: st) (SH, s) = some (pc + 1, ls, .int (s.1 j k) :: st, (SH, s)) := by
  have h2 : m_ia N xs (SH, s) j i = some (s.1 j k) := by subst hk; unfold m_ia; simp only [hj, if_neg hin]
  simp [m_op, m_op1, m_op2, m_op3, h2]
theorem op_la (hj : SH[j]? = some (.inl (1, n, q))) (hin : ¬ (i < 0 ∨ n ≤ i.toNatClampNeg)) {k : Nat} (hk : i.toNatClampNeg = k) : m_op N xs .laload aux pc ls (.int i :: .ref j :: st) (SH, s) = some (pc + 1, ls, .long (s.2 j k) :: st, (SH, s)) := by
  subst hk
  simp only [m_op, m_op1, m_op2, m_op3, hj, if_neg hin]
theorem op_ias (hj : SH[j]? = some (.inl (0, n, q))) (hin : ¬ (i < 0 ∨ n ≤ i.toNatClampNeg)) {k : Nat} (hk : i.toNatClampNeg = k) : m_op N xs .iastore aux pc ls (.int x :: .int i :: .ref j :: st) (SH, s) = some (pc + 1, ls, st, (SH, (mu s.1 j k x, s.2))) := by
  subst hk
  simp only [m_op, m_op1, m_op2, m_op3, hj, if_neg hin]
theorem op_las (hj : SH[j]? = some (.inl (1, n, q))) (hin : ¬ (i < 0 ∨ n ≤ i.toNatClampNeg)) {k : Nat} (hk : i.toNatClampNeg = k) : m_op N xs .lastore aux pc ls (.long u :: .int i :: .ref j :: st) (SH, s) = some (pc + 1, ls, st, (SH, (s.1, muL s.2 j k u))) := by
  subst hk
  simp only [m_op, m_op1, m_op2, m_op3, hj, if_neg hin]
theorem op_idiv (hy : ¬ y = 0) : m_op N xs .idiv aux pc ls (.int y :: .int x :: st) (SH, s) = some (pc + 1, ls, .int (x / y) :: st, (SH, s)) := by
  simp only [m_op, m_op1, m_op2, if_neg hy]
theorem op_irem (hy : ¬ y = 0) : m_op N xs .irem aux pc ls (.int y :: .int x :: st) (SH, s) = some (pc + 1, ls, .int (rm x y) :: st, (SH, s)) := by
  simp only [m_op, m_op1, m_op2, if_neg hy]
theorem op_ldiv (hy : ¬ w = 0) : m_op N xs .ldiv aux pc ls (.long w :: .long u :: st) (SH, s) = some (pc + 1, ls, .long (u / w) :: st, (SH, s)) := by
  simp only [m_op, m_op1, m_op2, if_neg hy]
theorem op_gs0 (h : 1000100 ≤ t ∧ t < 1000127) : m_op N xs (.getfield i0) [-1, 0, a3] pc ls (.ref t :: st) (SH, s) = some (pc + 3, ls, .ref (t + 100) :: st, (SH, s)) := by
  simp only [m_op, m_op1, m_op2, m_op3]; rw [if_pos h]; rfl
theorem op_gs1 (h : 1000100 ≤ t ∧ t < 1000127) : m_op N xs (.getfield i0) [-1, 1, a3] pc ls (.ref t :: st) (SH, s) = some (pc + 3, ls, .int 0 :: st, (SH, s)) := by
  simp only [m_op, m_op1, m_op2, m_op3]; rw [if_pos h]; rfl
theorem op_ba (h : 1000200 ≤ j ∧ j < 1000227) (hin : ¬ (i < 0 ∨ (m_sb.getD (j - 1000200) []).length ≤ i.toNatClampNeg)) : m_op N xs .baload aux pc ls (.int i :: .ref j :: st) (SH, s) = some (pc + 1, ls, .int ((m_sb.getD (j - 1000200) []).getD i.toNatClampNeg 0) :: st, (SH, s)) := by
  simp only [m_op, m_op1, m_op2, m_op3]; rw [if_pos h, if_neg hin]
theorem op_aa (hin : ¬ (i < 0 ∨ 6 ≤ i.toNatClampNeg)) : m_op N xs .aaload aux pc ls (.int i :: .ref 36 :: st) (SH, s) = some (pc + 1, ls, .ref (37 + 3 * i.toNatClampNeg) :: st, (SH, s)) := by
  have h36 : SH[36]? = some (.inl (2, 6, [some 37, some 40, some 43, some 46, some 49, some 52])) := rfl
  have hg : ∀ c, c < 6 → ([some 37, some 40, some 43, some 46, some 49, some 52] : List (Option Nat)).getD c none = some (37 + 3 * c) := by decide
  simp only [m_op, m_op1, m_op2, m_op3, h36, if_neg hin]
  rw [hg _ (Nat.not_le.mp fun z => hin (Or.inr z))]
theorem op_sw {ins : Instr} {aux : List Int} {v : Int} {f : mF} {h : mH} (hx : x = ci v) (hr : m_op N xs ins aux pc ls (.int (ci v) :: st) h = some f) : m_op N xs ins aux pc ls (.int x :: st) h = some f := hx ▸ hr
theorem op_swd {dd lo hi : Int} {offs : Array Int} {tg : Nat} (hx : x.toInt < lo ∨ hi < x.toInt) (ht : m_to pc dd = tg) : m_op N xs (.tableswitch dd lo hi offs) aux pc ls (.int x :: st) (SH, s) = some (tg, ls, st, (SH, s)) := by
  simp only [m_op, m_op1, m_op2, if_pos hx, ht]
theorem sw_out {lo hi : Int} (hlo : -2147483648 ≤ lo) (hhi : hi ≤ 2147483647) (h : ∀ v : Int, lo ≤ v → v ≤ hi → ¬ x = ci v) : x.toInt < lo ∨ hi < x.toInt := by
  by_cases h1 : x.toInt < lo
  · exact Or.inl h1
  · by_cases h2 : hi < x.toInt
    · exact Or.inr h2
    · exact absurd (by simp) (h x.toInt (by omega) (by omega))
theorem recv_T {As : List Value} (h : isT t) : m_recv (SH, s) 1 10 (.ref t :: As) = true := by simp [m_recv, h.1]
theorem recv_H {As : List Value} (h : isH t) : m_recv (SH, s) 1 2 (.ref t :: As) = true := by simp [m_recv, h.1]
theorem recv_M {As : List Value} (h : isM t) : m_recv (SH, s) 1 4 (.ref t :: As) = true := by simp [m_recv, h.1]
theorem recv_s {As : List Value} (h : 1000100 ≤ t ∧ t < 1000127) : m_recv (SH, s) 1 99 (.ref t :: As) = true := by
  show decide (1000100 ≤ t ∧ t < 1000127) = true
  exact decide_eq_true h
end R3
end
section
/-! WHAT THE PRINTED FUNCTIONS ARE STRUNG TOGETHER WITH -/
def b1 {α γ : Type} (o : Option α) (f : α → Option γ) : Option γ := match o with
  | none => none
  | some a => f a
def b2 {α β γ : Type} (o : Option (α × β)) (f : α → β → Option γ) : Option γ := match o with
  | none => none
  | some (a, b) => f a b
def bo {α γ : Type} (o : Option (Option α)) (f0 : Option γ) (f1 : α → Option γ) : Option γ := match o with
  | none => none
  | some none => f0
  | some (some a) => f1 a
def bs {γ : Type} (o : Option mS) (f : Nat → Option γ) : Option γ := match o with
  | some (.inl (0, n, _)) => f n
  | _ => none
theorem m_b1 {α γ : Type} {o : Option α} {f : α → Option γ} {τ : γ} (h : b1 o f = some τ) : ∃ a, o = some a ∧ f a = some τ := by
  cases o with
  | none => cases h
  | some a => exact ⟨a, rfl, h⟩
theorem m_b2 {α β γ : Type} {o : Option (α × β)} {f : α → β → Option γ} {τ : γ} (h : b2 o f = some τ) : ∃ a b, o = some (a, b) ∧ f a b = some τ := by
  cases o with
  | none => cases h
  | some a => exact ⟨a.1, a.2, rfl, h⟩
theorem m_bo {α γ : Type} {o : Option (Option α)} {f0 : Option γ} {f1 : α → Option γ} {τ : γ} (h : bo o f0 f1 = some τ) : (o = some none ∧ f0 = some τ) ∨ ∃ a, o = some (some a) ∧ f1 a = some τ := by
  match o, h with
  | none, h => cases h
  | some none, h => exact Or.inl ⟨rfl, h⟩
  | some (some a), h => exact Or.inr ⟨a, rfl, h⟩
theorem m_bs {γ : Type} {o : Option mS} {f : Nat → Option γ} {τ : γ} (h : bs o f = some τ) : ∃ n q, o = some (.inl (0, n, q)) ∧ f n = some τ := by
  unfold bs at h
  split at h
  · next n q => exact ⟨n, q, rfl, h⟩
  · cases h
theorem b1_some {α γ : Type} {a : α} {f : α → Option γ} : b1 (some a) f = f a := rfl
theorem b2_some {α β γ : Type} {a : α} {b : β} {f : α → β → Option γ} : b2 (some (a, b)) f = f a b := rfl
theorem bo_none {α γ : Type} {f0 : Option γ} {f1 : α → Option γ} : bo (some none) f0 f1 = f0 := rfl
theorem bo_some {α γ : Type} {a : α} {f0 : Option γ} {f1 : α → Option γ} : bo (some (some a)) f0 f1 = f1 a := rfl
theorem m_gn {c : Prop} [Decidable c] {γ : Type} {o : Option γ} {τ : γ} (h : (if c then none else o) = some τ) : ¬ c ∧ o = some τ := by
  by_cases hc : c
  · rw [if_pos hc] at h; cases h
  · rw [if_neg hc] at h; exact ⟨hc, h⟩
theorem m_gp {c : Prop} [Decidable c] {γ : Type} {o : Option γ} {τ : γ} (h : (if c then o else none) = some τ) : c ∧ o = some τ := by
  by_cases hc : c
  · rw [if_pos hc] at h; exact ⟨hc, h⟩
  · rw [if_neg hc] at h; cases h
theorem m_ifp {c : Prop} [Decidable c] {α : Type} {a b x : α} (hc : c) (h : (if c then a else b) = x) : a = x := by rw [if_pos hc] at h; exact h
theorem m_ifn {c : Prop} [Decidable c] {α : Type} {a b x : α} (hc : ¬ c) (h : (if c then a else b) = x) : b = x := by rw [if_neg hc] at h; exact h
theorem m_ret_b {ret : Option FieldType} {v : Int32} (hr : ret = some .boolean) (h : v = 0 ∨ v = 1) : m_ret ret .ireturn [.int v] = some (some (.int v)) := by subst hr; exact if_pos h
theorem m_ret_c {ret : Option FieldType} {v : Int32} (hr : ret = some .char) (h : v.toUInt32.toUInt16.toUInt32.toInt32 = v) : m_ret ret .ireturn [.int v] = some (some (.int v)) := by subst hr; exact if_pos h
theorem m_ret_y {ret : Option FieldType} {v : Int32} (hr : ret = some .byte) (h : v.toInt8.toInt32 = v) : m_ret ret .ireturn [.int v] = some (some (.int v)) := by subst hr; exact if_pos h
end
section
noncomputable section
/-! IsHeIn$Table.at(II)I -/
theorem srt133 : m_srt mc133 = true := by decide +kernel
def F_X10_at_67 (t : Nat) (s : mG) : Option (Int32) :=
  some (ci 0)
set_option maxRecDepth 4000 in
theorem k_X10_at_67 {N : Nat} {xs : Nat → Int32} (t : Nat) (d : Nat) (h_t : isT t) {r : Option Value × mH} {s : mG} {τ : (Int32)} (hJ : F_X10_at_67 t s = some τ) (hC : (fun τ => r = (some (.int τ), (SH, s))) τ) : Rn N xs (d + 0) me133 67 [none, none, none, none, none] [] (SH, s) r := by
  unfold F_X10_at_67 at hJ
  refine Rn_sq srt133 37 1 (pc' := 68) (ls' := [none, none, none, none, none]) (st' := [(.int (ci 0))]) (h1 := (SH, s)) rfl ?_
  rw [← Option.some.inj hJ] at hC
  have hC : r = (some (.int (ci 0)), (SH, s)) := hC
  subst hC
  exact Rn_ret srt133 38 rfl rfl rfl
def F_X10_at_38 (t : Nat) (s : mG) (x3 : Int32) (y0 : Int32) : Option (Int32) :=
  if y0 = 0 then
    F_X10_at_67 t s
  else
    if x3 < 0 then
      F_X10_at_67 t s
    else
      if (cn (m_alen (t + 1))) ≤ x3 then
        F_X10_at_67 t s
      else
        if x3 < 0 ∨ m_alen (t + 1) ≤ x3.toNatClampNeg then none else
        some (s.1 (t + 1) x3.toNatClampNeg)
set_option maxRecDepth 4000 in
theorem k_X10_at_38 {N : Nat} {xs : Nat → Int32} (t : Nat) (d : Nat) (h_t : isT t) {r : Option Value × mH} {s : mG} {x3 : Int32} {y0 : Int32} {τ : (Int32)} (hJ : F_X10_at_38 t s x3 y0 = some τ) (hC : (fun τ => r = (some (.int τ), (SH, s))) τ) : Rn N xs (d + 0) me133 38 [some (.ref t), none, none, some (.int x3), none] [(.int y0)] (SH, s) r := by
  unfold F_X10_at_38 at hJ
  refine Rn_sq srt133 22 3 (pc' := (if y0 = 0 then 67 else 45)) (ls' := [some (.ref t), none, none, some (.int x3), some (.int y0)]) (st' := []) (h1 := (SH, s)) rfl (Rn_if (fun h3 => ?_) (fun h3 => ?_))
  · replace hJ := m_ifp h3 hJ
    exact Rn_weaken (a := [none, none, none, none, none]) (b := [some (.ref t), none, none, some (.int x3), some (.int y0)]) trivial rfl (k_X10_at_67 t d h_t hJ hC)
  · replace hJ := m_ifn h3 hJ
    refine Rn_sq srt133 25 2 (pc' := (if x3 < 0 then 67 else 49)) (ls' := [some (.ref t), none, none, some (.int x3), some (.int y0)]) (st' := []) (h1 := (SH, s)) rfl (Rn_if (fun h4 => ?_) (fun h4 => ?_))
    · replace hJ := m_ifp h4 hJ
      exact Rn_weaken (a := [none, none, none, none, none]) (b := [some (.ref t), none, none, some (.int x3), some (.int y0)]) trivial rfl (k_X10_at_67 t d h_t hJ hC)
    · replace hJ := m_ifn h4 hJ
      refine Rn_sq srt133 27 2 (pc' := 51) (ls' := [some (.ref t), none, none, some (.int x3), some (.int y0)]) (st' := [(.ref t), (.int x3)]) (h1 := (SH, s)) rfl ?_
      refine Rn_ev srt133 29 rfl rfl rfl (op_gfT2 h_t) ?_
      refine Rn_ev srt133 30 rfl rfl rfl (op_alT h_t) ?_
      refine Rn_sq srt133 31 1 (pc' := (if (cn (m_alen (t + 1))) ≤ x3 then 67 else 58)) (ls' := [some (.ref t), none, none, some (.int x3), some (.int y0)]) (st' := []) (h1 := (SH, s)) rfl (Rn_if (fun h5 => ?_) (fun h5 => ?_))
      · replace hJ := m_ifp h5 hJ
        exact Rn_weaken (a := [none, none, none, none, none]) (b := [some (.ref t), none, none, some (.int x3), some (.int y0)]) trivial rfl (k_X10_at_67 t d h_t hJ hC)
      · replace hJ := m_ifn h5 hJ
        refine Rn_sq srt133 32 1 (pc' := 59) (ls' := [some (.ref t), none, none, some (.int x3), some (.int y0)]) (st' := [(.ref t)]) (h1 := (SH, s)) rfl ?_
        refine Rn_ev srt133 33 rfl rfl rfl (op_gfT2 h_t) ?_
        refine Rn_sq srt133 34 1 (pc' := 63) (ls' := [some (.ref t), none, none, some (.int x3), some (.int y0)]) (st' := [(.int x3), (.ref (t + 1))]) (h1 := (SH, s)) rfl ?_
        obtain ⟨h6, hJ⟩ := m_gn hJ
        refine Rn_ev srt133 35 rfl rfl rfl (op_ia h_t.2 h6 (k := x3.toNatClampNeg) rfl) ?_
        refine Rn_sq srt133 36 1 (pc' := 68) (ls' := [some (.ref t), none, none, some (.int x3), some (.int y0)]) (st' := [(.int (s.1 (t + 1) x3.toNatClampNeg))]) (h1 := (SH, s)) rfl ?_
        rw [← Option.some.inj hJ] at hC
        have hC : r = (some (.int (s.1 (t + 1) x3.toNatClampNeg)), (SH, s)) := hC
        subst hC
        exact Rn_ret srt133 38 rfl rfl rfl
def F_X10_at_37 (t : Nat) (s : mG) (x3 : Int32) : Option (Int32) :=
  F_X10_at_38 t s x3 (ci 0)
set_option maxRecDepth 4000 in
theorem k_X10_at_37 {N : Nat} {xs : Nat → Int32} (t : Nat) (d : Nat) (h_t : isT t) {r : Option Value × mH} {s : mG} {x3 : Int32} {τ : (Int32)} (hJ : F_X10_at_37 t s x3 = some τ) (hC : (fun τ => r = (some (.int τ), (SH, s))) τ) : Rn N xs (d + 0) me133 37 [some (.ref t), none, none, some (.int x3), none] [] (SH, s) r := by
  unfold F_X10_at_37 at hJ
  refine Rn_sq srt133 21 1 (pc' := 38) (ls' := [some (.ref t), none, none, some (.int x3), none]) (st' := [(.int (ci 0))]) (h1 := (SH, s)) rfl ?_
  exact (k_X10_at_38 t d h_t hJ hC)
def F_X10_at (t : Nat) (s : mG) (a1 : Int32) (a2 : Int32) : Option (Int32) :=
  let v1 : Int32 := ((a1 * (s.1 t 1)) + a2)
  if a1 < 0 then
    F_X10_at_37 t s v1
  else
    if (s.1 t 3) ≤ a1 then
      F_X10_at_37 t s v1
    else
      if a2 < 0 then
        F_X10_at_37 t s v1
      else
        if (s.1 t 1) ≤ a2 then
          F_X10_at_37 t s v1
        else
          F_X10_at_38 t s v1 (ci 1)
set_option maxRecDepth 4000 in
theorem k_X10_at_r {N : Nat} {xs : Nat → Int32} (t : Nat) (d : Nat) (h_t : isT t) {r : Option Value × mH} {s : mG} {a1 : Int32} {a2 : Int32} {τ : (Int32)} (hJ : F_X10_at t s a1 a2 = some τ) (hC : (fun τ => r = (some (.int τ), (SH, s))) τ) : Rn N xs (d + 0) me133 0 [some (.ref t), some (.int a1), some (.int a2), none, none] [] (SH, s) r := by
  unfold F_X10_at at hJ
  refine Rn_sq srt133 0 2 (pc' := 2) (ls' := [some (.ref t), some (.int a1), some (.int a2), none, none]) (st' := [(.ref t), (.int a1)]) (h1 := (SH, s)) rfl ?_
  refine Rn_ev srt133 2 rfl rfl rfl (op_gfT1 h_t) ?_
  extract_lets v1 at hJ
  refine Rn_sq srt133 3 6 (pc' := (if a1 < 0 then 37 else 13)) (ls' := [some (.ref t), some (.int a1), some (.int a2), some (.int v1), none]) (st' := []) (h1 := (SH, s)) rfl (Rn_if (fun h2 => ?_) (fun h2 => ?_))
  · replace hJ := m_ifp h2 hJ
    exact Rn_weaken (a := [some (.ref t), none, none, some (.int v1), none]) (b := [some (.ref t), some (.int a1), some (.int a2), some (.int v1), none]) (And.intro rfl (And.intro rfl trivial)) rfl (k_X10_at_37 t d h_t hJ hC)
  · replace hJ := m_ifn h2 hJ
    refine Rn_sq srt133 9 2 (pc' := 15) (ls' := [some (.ref t), some (.int a1), some (.int a2), some (.int v1), none]) (st' := [(.ref t), (.int a1)]) (h1 := (SH, s)) rfl ?_
    refine Rn_ev srt133 11 rfl rfl rfl (op_gfT3 h_t) ?_
    refine Rn_sq srt133 12 1 (pc' := (if (s.1 t 3) ≤ a1 then 37 else 21)) (ls' := [some (.ref t), some (.int a1), some (.int a2), some (.int v1), none]) (st' := []) (h1 := (SH, s)) rfl (Rn_if (fun h7 => ?_) (fun h7 => ?_))
    · replace hJ := m_ifp h7 hJ
      exact Rn_weaken (a := [some (.ref t), none, none, some (.int v1), none]) (b := [some (.ref t), some (.int a1), some (.int a2), some (.int v1), none]) (And.intro rfl (And.intro rfl trivial)) rfl (k_X10_at_37 t d h_t hJ hC)
    · replace hJ := m_ifn h7 hJ
      refine Rn_sq srt133 13 2 (pc' := (if a2 < 0 then 37 else 25)) (ls' := [some (.ref t), some (.int a1), some (.int a2), some (.int v1), none]) (st' := []) (h1 := (SH, s)) rfl (Rn_if (fun h8 => ?_) (fun h8 => ?_))
      · replace hJ := m_ifp h8 hJ
        exact Rn_weaken (a := [some (.ref t), none, none, some (.int v1), none]) (b := [some (.ref t), some (.int a1), some (.int a2), some (.int v1), none]) (And.intro rfl (And.intro rfl trivial)) rfl (k_X10_at_37 t d h_t hJ hC)
      · replace hJ := m_ifn h8 hJ
        refine Rn_sq srt133 15 2 (pc' := 27) (ls' := [some (.ref t), some (.int a1), some (.int a2), some (.int v1), none]) (st' := [(.ref t), (.int a2)]) (h1 := (SH, s)) rfl ?_
        refine Rn_ev srt133 17 rfl rfl rfl (op_gfT1 h_t) ?_
        refine Rn_sq srt133 18 1 (pc' := (if (s.1 t 1) ≤ a2 then 37 else 33)) (ls' := [some (.ref t), some (.int a1), some (.int a2), some (.int v1), none]) (st' := []) (h1 := (SH, s)) rfl (Rn_if (fun h9 => ?_) (fun h9 => ?_))
        · replace hJ := m_ifp h9 hJ
          exact Rn_weaken (a := [some (.ref t), none, none, some (.int v1), none]) (b := [some (.ref t), some (.int a1), some (.int a2), some (.int v1), none]) (And.intro rfl (And.intro rfl trivial)) rfl (k_X10_at_37 t d h_t hJ hC)
        · replace hJ := m_ifn h9 hJ
          refine Rn_sq srt133 19 2 (pc' := 38) (ls' := [some (.ref t), some (.int a1), some (.int a2), some (.int v1), none]) (st' := [(.int (ci 1))]) (h1 := (SH, s)) rfl ?_
          exact Rn_weaken (a := [some (.ref t), none, none, some (.int v1), none]) (b := [some (.ref t), some (.int a1), some (.int a2), some (.int v1), none]) (And.intro rfl (And.intro rfl trivial)) rfl (k_X10_at_38 t d h_t hJ hC)
theorem k_X10_at {N : Nat} {xs : Nat → Int32} (t : Nat) (d : Nat) (h_t : isT t) {s : mG} {a1 : Int32} {a2 : Int32} {τ : (Int32)} (hJ : F_X10_at t s a1 a2 = some τ) : Rn N xs (d + 0) me133 0 [some (.ref t), some (.int a1), some (.int a2), none, none] [] (SH, s) (some (.int τ), (SH, s)) := k_X10_at_r t d h_t hJ rfl
/-! IsHeIn.put([III)V -/
theorem srt190 : m_srt mc190 = true := by decide +kernel
def F_X11_put (a1 : Nat) (a2 : Int32) (a3 : Int32) (s : mG) : Option (mG) :=
  if a2 < 0 then
    some s
  else
    b1 (mal a1) fun n2 =>
    if (cn n2) ≤ a2 then
      some s
    else
      bs SH[a1]? fun n5 =>
        if a2 < 0 ∨ n5 ≤ a2.toNatClampNeg then none else
        let s8 : mG := (mu s.1 a1 a2.toNatClampNeg a3, s.2)
        some s8
set_option maxRecDepth 4000 in
theorem k_X11_put_r {N : Nat} {xs : Nat → Int32} (a1 : Nat) (d : Nat) {r : Option Value × mH} {s : mG} {a2 : Int32} {a3 : Int32} {τ : (mG)} (hJ : F_X11_put a1 a2 a3 s = some τ) (hC : (fun τ => r = (none, (SH, τ))) τ) : Rn N xs (d + 0) me190 0 [some (.ref a1), some (.int a2), some (.int a3)] [] (SH, s) r := by
  unfold F_X11_put at hJ
  refine Rn_sq srt190 0 4 (pc' := (if a2 < 0 then 18 else 8)) (ls' := [some (.ref a1), some (.int a2), some (.int a3)]) (st' := []) (h1 := (SH, s)) rfl (Rn_if (fun h1 => ?_) (fun h1 => ?_))
  · replace hJ := m_ifp h1 hJ
    rw [← Option.some.inj hJ] at hC
    have hC : r = (none, (SH, s)) := hC
    subst hC
    exact Rn_ret srt190 12 rfl rfl rfl
  · replace hJ := m_ifn h1 hJ
    refine Rn_sq srt190 4 2 (pc' := 10) (ls' := [some (.ref a1), some (.int a2), some (.int a3)]) (st' := [(.ref a1), (.int a2)]) (h1 := (SH, s)) rfl ?_
    obtain ⟨n2, h3, hJ⟩ := m_b1 hJ
    refine Rn_ev srt190 6 rfl rfl rfl (op_alv h3) ?_
    refine Rn_sq srt190 7 1 (pc' := (if (cn n2) ≤ a2 then 18 else 14)) (ls' := [some (.ref a1), some (.int a2), some (.int a3)]) (st' := []) (h1 := (SH, s)) rfl (Rn_if (fun h4 => ?_) (fun h4 => ?_))
    · replace hJ := m_ifp h4 hJ
      rw [← Option.some.inj hJ] at hC
      have hC : r = (none, (SH, s)) := hC
      subst hC
      exact Rn_ret srt190 12 rfl rfl rfl
    · replace hJ := m_ifn h4 hJ
      refine Rn_sq srt190 8 3 (pc' := 17) (ls' := [some (.ref a1), some (.int a2), some (.int a3)]) (st' := [(.int a3), (.int a2), (.ref a1)]) (h1 := (SH, s)) rfl ?_
      obtain ⟨n5, _, h6, hJ⟩ := m_bs hJ
      obtain ⟨h7, hJ⟩ := m_gn hJ
      extract_lets s8 at hJ
      refine Rn_ev srt190 11 rfl rfl rfl (op_ias h6 h7 (k := a2.toNatClampNeg) rfl) ?_
      rw [← Option.some.inj hJ] at hC
      have hC : r = (none, (SH, s8)) := hC
      subst hC
      exact Rn_ret srt190 12 rfl rfl rfl
theorem k_X11_put {N : Nat} {xs : Nat → Int32} (a1 : Nat) (d : Nat) {s : mG} {a2 : Int32} {a3 : Int32} {τ : (mG)} (hJ : F_X11_put a1 a2 a3 s = some τ) : Rn N xs (d + 0) me190 0 [some (.ref a1), some (.int a2), some (.int a3)] [] (SH, s) (none, (SH, τ)) := k_X11_put_r a1 d hJ rfl
/-! IsHeIn$Law.joined(III)I -/
theorem srt59 : m_srt mc59 = true := by decide +kernel
def F_X3_joined_109 (s : mG) : Option (Int32) :=
  some (ci 0)
set_option maxRecDepth 4000 in
theorem k_X3_joined_109 {N : Nat} {xs : Nat → Int32} (d : Nat) {r : Option Value × mH} {s : mG} {τ : (Int32)} (hJ : F_X3_joined_109 s = some τ) (hC : (fun τ => r = (some (.int τ), (SH, s))) τ) : Rn N xs (d + 0) me59 109 [none, none, none] [] (SH, s) r := by
  unfold F_X3_joined_109 at hJ
  refine Rn_sq srt59 43 1 (pc' := 110) (ls' := [none, none, none]) (st' := [(.int (ci 0))]) (h1 := (SH, s)) rfl ?_
  rw [← Option.some.inj hJ] at hC
  have hC : r = (some (.int (ci 0)), (SH, s)) := hC
  subst hC
  exact Rn_ret srt59 44 rfl rfl rfl
def F_X3_joined (s : mG) (a1 : Int32) (a2 : Int32) (a3 : Int32) : Option (Int32) :=
  if a1 = ci 2 then
    some (a2 + a3)
  else
  if a1 = ci 3 then
    some (a2 - a3)
  else
  if a1 = ci 4 then
    some (a2 * a3)
  else
  if a1 = ci 5 then
    F_X3_joined_109 s
  else
  if a1 = ci 6 then
    if a3 ≤ a2 then
      some (ci 0)
    else
      some (ci 1)
  else
  if a1 = ci 7 then
    if a2 = a3 then
      some (ci 1)
    else
      some (ci 0)
  else
  if a1 = ci 8 then
    if a2 ≤ a3 then
      some (ci 0)
    else
      some (ci 1)
  else
  if a1 = ci 9 then
    F_X3_joined_109 s
  else
  if a1 = ci 10 then
    some (a2 &&& a3)
  else
  if a1 = ci 11 then
    some (a2 ||| a3)
  else
  F_X3_joined_109 s
set_option maxRecDepth 4000 in
theorem k_X3_joined_r {N : Nat} {xs : Nat → Int32} (d : Nat) {r : Option Value × mH} {s : mG} {a1 : Int32} {a2 : Int32} {a3 : Int32} {τ : (Int32)} (hJ : F_X3_joined s a1 a2 a3 = some τ) (hC : (fun τ => r = (some (.int τ), (SH, s))) τ) : Rn N xs (d + 0) me59 0 [some (.int a1), some (.int a2), some (.int a3)] [] (SH, s) r := by
  unfold F_X3_joined at hJ
  refine Rn_sq srt59 0 1 (pc' := 1) (ls' := [some (.int a1), some (.int a2), some (.int a3)]) (st' := [(.int a1)]) (h1 := (SH, s)) rfl ?_
  by_cases h1 : a1 = ci 2
  · replace hJ := m_ifp h1 hJ
    refine Rn_ev srt59 1 rfl rfl rfl (op_sw h1 (show _ = some (56, _) from rfl)) ?_
    refine Rn_sq srt59 2 3 (pc' := 59) (ls' := [some (.int a1), some (.int a2), some (.int a3)]) (st' := [(.int (a2 + a3))]) (h1 := (SH, s)) rfl ?_
    rw [← Option.some.inj hJ] at hC
    have hC : r = (some (.int (a2 + a3)), (SH, s)) := hC
    subst hC
    exact Rn_ret srt59 5 rfl rfl rfl
  replace hJ := m_ifn h1 hJ
  by_cases h2 : a1 = ci 3
  · replace hJ := m_ifp h2 hJ
    refine Rn_ev srt59 1 rfl rfl rfl (op_sw h2 (show _ = some (60, _) from rfl)) ?_
    refine Rn_sq srt59 6 3 (pc' := 63) (ls' := [some (.int a1), some (.int a2), some (.int a3)]) (st' := [(.int (a2 - a3))]) (h1 := (SH, s)) rfl ?_
    rw [← Option.some.inj hJ] at hC
    have hC : r = (some (.int (a2 - a3)), (SH, s)) := hC
    subst hC
    exact Rn_ret srt59 9 rfl rfl rfl
  replace hJ := m_ifn h2 hJ
  by_cases h3 : a1 = ci 4
  · replace hJ := m_ifp h3 hJ
    refine Rn_ev srt59 1 rfl rfl rfl (op_sw h3 (show _ = some (64, _) from rfl)) ?_
    refine Rn_sq srt59 10 3 (pc' := 67) (ls' := [some (.int a1), some (.int a2), some (.int a3)]) (st' := [(.int (a2 * a3))]) (h1 := (SH, s)) rfl ?_
    rw [← Option.some.inj hJ] at hC
    have hC : r = (some (.int (a2 * a3)), (SH, s)) := hC
    subst hC
    exact Rn_ret srt59 13 rfl rfl rfl
  replace hJ := m_ifn h3 hJ
  by_cases h4 : a1 = ci 5
  · replace hJ := m_ifp h4 hJ
    refine Rn_ev srt59 1 rfl rfl rfl (op_sw h4 (show _ = some (109, _) from rfl)) ?_
    exact Rn_weaken (a := [none, none, none]) (b := [some (.int a1), some (.int a2), some (.int a3)]) trivial rfl (k_X3_joined_109 d hJ hC)
  replace hJ := m_ifn h4 hJ
  by_cases h5 : a1 = ci 6
  · replace hJ := m_ifp h5 hJ
    refine Rn_ev srt59 1 rfl rfl rfl (op_sw h5 (show _ = some (68, _) from rfl)) ?_
    refine Rn_sq srt59 14 3 (pc' := (if a3 ≤ a2 then 77 else 73)) (ls' := [some (.int a1), some (.int a2), some (.int a3)]) (st' := []) (h1 := (SH, s)) rfl (Rn_if (fun h6 => ?_) (fun h6 => ?_))
    · replace hJ := m_ifp h6 hJ
      refine Rn_sq srt59 19 1 (pc' := 78) (ls' := [some (.int a1), some (.int a2), some (.int a3)]) (st' := [(.int (ci 0))]) (h1 := (SH, s)) rfl ?_
      rw [← Option.some.inj hJ] at hC
      have hC : r = (some (.int (ci 0)), (SH, s)) := hC
      subst hC
      exact Rn_ret srt59 20 rfl rfl rfl
    · replace hJ := m_ifn h6 hJ
      refine Rn_sq srt59 17 2 (pc' := 78) (ls' := [some (.int a1), some (.int a2), some (.int a3)]) (st' := [(.int (ci 1))]) (h1 := (SH, s)) rfl ?_
      rw [← Option.some.inj hJ] at hC
      have hC : r = (some (.int (ci 1)), (SH, s)) := hC
      subst hC
      exact Rn_ret srt59 20 rfl rfl rfl
  replace hJ := m_ifn h5 hJ
  by_cases h7 : a1 = ci 7
  · replace hJ := m_ifp h7 hJ
    refine Rn_ev srt59 1 rfl rfl rfl (op_sw h7 (show _ = some (79, _) from rfl)) ?_
    refine Rn_sq srt59 21 3 (pc' := (if a2 = a3 then 84 else 88)) (ls' := [some (.int a1), some (.int a2), some (.int a3)]) (st' := []) (h1 := (SH, s)) rfl (Rn_if (fun h8 => ?_) (fun h8 => ?_))
    · replace hJ := m_ifp h8 hJ
      refine Rn_sq srt59 24 2 (pc' := 89) (ls' := [some (.int a1), some (.int a2), some (.int a3)]) (st' := [(.int (ci 1))]) (h1 := (SH, s)) rfl ?_
      rw [← Option.some.inj hJ] at hC
      have hC : r = (some (.int (ci 1)), (SH, s)) := hC
      subst hC
      exact Rn_ret srt59 27 rfl rfl rfl
    · replace hJ := m_ifn h8 hJ
      refine Rn_sq srt59 26 1 (pc' := 89) (ls' := [some (.int a1), some (.int a2), some (.int a3)]) (st' := [(.int (ci 0))]) (h1 := (SH, s)) rfl ?_
      rw [← Option.some.inj hJ] at hC
      have hC : r = (some (.int (ci 0)), (SH, s)) := hC
      subst hC
      exact Rn_ret srt59 27 rfl rfl rfl
  replace hJ := m_ifn h7 hJ
  by_cases h9 : a1 = ci 8
  · replace hJ := m_ifp h9 hJ
    refine Rn_ev srt59 1 rfl rfl rfl (op_sw h9 (show _ = some (90, _) from rfl)) ?_
    refine Rn_sq srt59 28 3 (pc' := (if a2 ≤ a3 then 99 else 95)) (ls' := [some (.int a1), some (.int a2), some (.int a3)]) (st' := []) (h1 := (SH, s)) rfl (Rn_if (fun h10 => ?_) (fun h10 => ?_))
    · replace hJ := m_ifp h10 hJ
      refine Rn_sq srt59 33 1 (pc' := 100) (ls' := [some (.int a1), some (.int a2), some (.int a3)]) (st' := [(.int (ci 0))]) (h1 := (SH, s)) rfl ?_
      rw [← Option.some.inj hJ] at hC
      have hC : r = (some (.int (ci 0)), (SH, s)) := hC
      subst hC
      exact Rn_ret srt59 34 rfl rfl rfl
    · replace hJ := m_ifn h10 hJ
      refine Rn_sq srt59 31 2 (pc' := 100) (ls' := [some (.int a1), some (.int a2), some (.int a3)]) (st' := [(.int (ci 1))]) (h1 := (SH, s)) rfl ?_
      rw [← Option.some.inj hJ] at hC
      have hC : r = (some (.int (ci 1)), (SH, s)) := hC
      subst hC
      exact Rn_ret srt59 34 rfl rfl rfl
  replace hJ := m_ifn h9 hJ
  by_cases h11 : a1 = ci 9
  · replace hJ := m_ifp h11 hJ
    refine Rn_ev srt59 1 rfl rfl rfl (op_sw h11 (show _ = some (109, _) from rfl)) ?_
    exact Rn_weaken (a := [none, none, none]) (b := [some (.int a1), some (.int a2), some (.int a3)]) trivial rfl (k_X3_joined_109 d hJ hC)
  replace hJ := m_ifn h11 hJ
  by_cases h12 : a1 = ci 10
  · replace hJ := m_ifp h12 hJ
    refine Rn_ev srt59 1 rfl rfl rfl (op_sw h12 (show _ = some (101, _) from rfl)) ?_
    refine Rn_sq srt59 35 3 (pc' := 104) (ls' := [some (.int a1), some (.int a2), some (.int a3)]) (st' := [(.int (a2 &&& a3))]) (h1 := (SH, s)) rfl ?_
    rw [← Option.some.inj hJ] at hC
    have hC : r = (some (.int (a2 &&& a3)), (SH, s)) := hC
    subst hC
    exact Rn_ret srt59 38 rfl rfl rfl
  replace hJ := m_ifn h12 hJ
  by_cases h13 : a1 = ci 11
  · replace hJ := m_ifp h13 hJ
    refine Rn_ev srt59 1 rfl rfl rfl (op_sw h13 (show _ = some (105, _) from rfl)) ?_
    refine Rn_sq srt59 39 3 (pc' := 108) (ls' := [some (.int a1), some (.int a2), some (.int a3)]) (st' := [(.int (a2 ||| a3))]) (h1 := (SH, s)) rfl ?_
    rw [← Option.some.inj hJ] at hC
    have hC : r = (some (.int (a2 ||| a3)), (SH, s)) := hC
    subst hC
    exact Rn_ret srt59 42 rfl rfl rfl
  replace hJ := m_ifn h13 hJ
  refine Rn_ev srt59 1 rfl rfl rfl (op_swd (tg := 109) (sw_out (by decide) (by decide) (by intro v hv1 hv2; rcases (show v = 2 ∨ v = 3 ∨ v = 4 ∨ v = 5 ∨ v = 6 ∨ v = 7 ∨ v = 8 ∨ v = 9 ∨ v = 10 ∨ v = 11 by omega) with rfl | rfl | rfl | rfl | rfl | rfl | rfl | rfl | rfl | rfl <;> assumption)) rfl) ?_
  exact Rn_weaken (a := [none, none, none]) (b := [some (.int a1), some (.int a2), some (.int a3)]) trivial rfl (k_X3_joined_109 d hJ hC)
theorem k_X3_joined {N : Nat} {xs : Nat → Int32} (d : Nat) {s : mG} {a1 : Int32} {a2 : Int32} {a3 : Int32} {τ : (Int32)} (hJ : F_X3_joined s a1 a2 a3 = some τ) : Rn N xs (d + 0) me59 0 [some (.int a1), some (.int a2), some (.int a3)] [] (SH, s) (some (.int τ), (SH, s)) := k_X3_joined_r d hJ rfl
/-! IsHeIn.cell([II)I -/
theorem srt189 : m_srt mc189 = true := by decide +kernel
def F_X11_cell_20 (a1 : Nat) (s : mG) : Option (Int32) :=
  some (ci 0)
set_option maxRecDepth 4000 in
theorem k_X11_cell_20 {N : Nat} {xs : Nat → Int32} (a1 : Nat) (d : Nat) {r : Option Value × mH} {s : mG} {τ : (Int32)} (hJ : F_X11_cell_20 a1 s = some τ) (hC : (fun τ => r = (some (.int τ), (SH, s))) τ) : Rn N xs (d + 0) me189 20 [none, none] [] (SH, s) r := by
  unfold F_X11_cell_20 at hJ
  refine Rn_sq srt189 12 1 (pc' := 21) (ls' := [none, none]) (st' := [(.int (ci 0))]) (h1 := (SH, s)) rfl ?_
  rw [← Option.some.inj hJ] at hC
  have hC : r = (some (.int (ci 0)), (SH, s)) := hC
  subst hC
  exact Rn_ret srt189 13 rfl rfl rfl
def F_X11_cell (a1 : Nat) (s : mG) (a2 : Int32) : Option (Int32) :=
  if a2 < 0 then
    F_X11_cell_20 a1 s
  else
    b1 (mal a1) fun n2 =>
    if (cn n2) ≤ a2 then
      F_X11_cell_20 a1 s
    else
      b1 (mia s a1 a2) fun v6 =>
      some v6
set_option maxRecDepth 4000 in
theorem k_X11_cell_r {N : Nat} {xs : Nat → Int32} (a1 : Nat) (d : Nat) {r : Option Value × mH} {s : mG} {a2 : Int32} {τ : (Int32)} (hJ : F_X11_cell a1 s a2 = some τ) (hC : (fun τ => r = (some (.int τ), (SH, s))) τ) : Rn N xs (d + 0) me189 0 [some (.ref a1), some (.int a2)] [] (SH, s) r := by
  unfold F_X11_cell at hJ
  refine Rn_sq srt189 0 4 (pc' := (if a2 < 0 then 20 else 8)) (ls' := [some (.ref a1), some (.int a2)]) (st' := []) (h1 := (SH, s)) rfl (Rn_if (fun h1 => ?_) (fun h1 => ?_))
  · replace hJ := m_ifp h1 hJ
    exact Rn_weaken (a := [none, none]) (b := [some (.ref a1), some (.int a2)]) trivial rfl (k_X11_cell_20 a1 d hJ hC)
  · replace hJ := m_ifn h1 hJ
    refine Rn_sq srt189 4 2 (pc' := 10) (ls' := [some (.ref a1), some (.int a2)]) (st' := [(.ref a1), (.int a2)]) (h1 := (SH, s)) rfl ?_
    obtain ⟨n2, h3, hJ⟩ := m_b1 hJ
    refine Rn_ev srt189 6 rfl rfl rfl (op_alv h3) ?_
    refine Rn_sq srt189 7 1 (pc' := (if (cn n2) ≤ a2 then 20 else 14)) (ls' := [some (.ref a1), some (.int a2)]) (st' := []) (h1 := (SH, s)) rfl (Rn_if (fun h4 => ?_) (fun h4 => ?_))
    · replace hJ := m_ifp h4 hJ
      exact Rn_weaken (a := [none, none]) (b := [some (.ref a1), some (.int a2)]) trivial rfl (k_X11_cell_20 a1 d hJ hC)
    · replace hJ := m_ifn h4 hJ
      refine Rn_sq srt189 8 2 (pc' := 16) (ls' := [some (.ref a1), some (.int a2)]) (st' := [(.int a2), (.ref a1)]) (h1 := (SH, s)) rfl ?_
      obtain ⟨v6, h5, hJ⟩ := m_b1 hJ
      refine Rn_ev srt189 10 rfl rfl rfl (op_iav h5) ?_
      refine Rn_sq srt189 11 1 (pc' := 21) (ls' := [some (.ref a1), some (.int a2)]) (st' := [(.int v6)]) (h1 := (SH, s)) rfl ?_
      rw [← Option.some.inj hJ] at hC
      have hC : r = (some (.int v6), (SH, s)) := hC
      subst hC
      exact Rn_ret srt189 13 rfl rfl rfl
theorem k_X11_cell {N : Nat} {xs : Nat → Int32} (a1 : Nat) (d : Nat) {s : mG} {a2 : Int32} {τ : (Int32)} (hJ : F_X11_cell a1 s a2 = some τ) : Rn N xs (d + 0) me189 0 [some (.ref a1), some (.int a2)] [] (SH, s) (some (.int τ), (SH, s)) := k_X11_cell_r a1 d hJ rfl
/-! IsHeIn$Law.valueOf(II)I -/
theorem srt58 : m_srt mc58 = true := by decide +kernel
def C_X3_valueOf_5 (N : Nat) (xs : Nat → Int32) (d : Nat) (r : Option Value × mH) (C : (Int32 × mG) → Prop) : ((Int32 × Int32 × Int32 × mG) ⊕ (Int32 × mG)) → Prop
  | .inl v => Rn N xs (d + 1) me58 5 [some (.ref 68), none, some (.int v.1), some (.int v.2.1), some (.int v.2.2.1), none, none, none] [] (SH, v.2.2.2) r
  | .inr a => C a
def F_X3_valueOf_229 (x2 : Int32) (x3 : Int32) (x4 : Int32) (s : mG) : Option ((Int32 × Int32 × Int32 × mG) ⊕ (Int32 × mG)) :=
  some (Sum.inl (x2, x3, (x4 + ci 1), s))
set_option maxRecDepth 4000 in
theorem k_X3_valueOf_229 {N : Nat} {xs : Nat → Int32} (d : Nat) {r : Option Value × mH} {s : mG} {x2 : Int32} {x3 : Int32} {x4 : Int32} {τ : ((Int32 × Int32 × Int32 × mG) ⊕ (Int32 × mG))} (hJ : F_X3_valueOf_229 x2 x3 x4 s = some τ) (hC : (C_X3_valueOf_5 N xs d r (fun τ => r = (some (.int τ.1), (SH, τ.2)))) τ) : Rn N xs (d + 1) me58 229 [some (.ref 68), none, some (.int x2), some (.int x3), some (.int x4), none, none, none] [] (SH, s) r := by
  unfold F_X3_valueOf_229 at hJ
  refine Rn_sq srt58 91 2 (pc' := 5) (ls' := [some (.ref 68), none, some (.int x2), some (.int x3), some (.int (x4 + ci 1)), none, none, none]) (st' := []) (h1 := (SH, s)) rfl ?_
  rw [← Option.some.inj hJ] at hC
  exact hC
def F_X3_valueOf_199 (x2 : Int32) (x3 : Int32) (x4 : Int32) (x5 : Int32) (x7 : Int32) (s : mG) : Option ((Int32 × Int32 × Int32 × mG) ⊕ (Int32 × mG)) :=
  b1 (F_X11_cell 70 s ((x3 + ci (-1)) - (ci 1))) fun v20 =>
  b1 (F_X3_joined s x5 v20 x7) fun v22 =>
  b1 (F_X11_put 70 ((x3 + ci (-1)) - (ci 1)) v22 s) fun s24 =>
  F_X3_valueOf_229 x2 (x3 + ci (-1)) x4 s24
set_option maxRecDepth 4000 in
theorem k_X3_valueOf_199 {N : Nat} {xs : Nat → Int32} (d : Nat) {r : Option Value × mH} {s : mG} {x2 : Int32} {x3 : Int32} {x4 : Int32} {x5 : Int32} {x7 : Int32} {τ : ((Int32 × Int32 × Int32 × mG) ⊕ (Int32 × mG))} (hJ : F_X3_valueOf_199 x2 x3 x4 x5 x7 s = some τ) (hC : (C_X3_valueOf_5 N xs d r (fun τ => r = (some (.int τ.1), (SH, τ.2)))) τ) : Rn N xs (d + 1) me58 199 [some (.ref 68), none, some (.int x2), some (.int x3), some (.int x4), some (.int x5), none, some (.int x7)] [] (SH, s) r := by
  unfold F_X3_valueOf_199 at hJ
  refine Rn_sq srt58 75 12 (pc' := 218) (ls' := [some (.ref 68), none, some (.int x2), some (.int (x3 + ci (-1))), some (.int x4), some (.int x5), none, some (.int x7)]) (st' := [(.int ((x3 + ci (-1)) - (ci 1))), (.ref 70), (.int x5), (.int ((x3 + ci (-1)) - (ci 1))), (.ref 70)]) (h1 := (SH, s)) rfl ?_
  obtain ⟨v20, h19, hJ⟩ := m_b1 hJ
  refine Rn_call srt58 87 rfl rfl rfl ⟨Nat.le_of_ble_eq_true rfl, Nat.le_of_ble_eq_true rfl, rfl, Nat.le_of_ble_eq_true rfl⟩ (k_X11_cell 70 (d) h19) (show Rn N xs (d + 1) me58 221 [some (.ref 68), none, some (.int x2), some (.int (x3 + ci (-1))), some (.int x4), some (.int x5), none, some (.int x7)] [(.int v20), (.int x5), (.int ((x3 + ci (-1)) - (ci 1))), (.ref 70)] (SH, s) r from ?_)
  refine Rn_sq srt58 88 1 (pc' := 223) (ls' := [some (.ref 68), none, some (.int x2), some (.int (x3 + ci (-1))), some (.int x4), some (.int x5), none, some (.int x7)]) (st' := [(.int x7), (.int v20), (.int x5), (.int ((x3 + ci (-1)) - (ci 1))), (.ref 70)]) (h1 := (SH, s)) rfl ?_
  obtain ⟨v22, h21, hJ⟩ := m_b1 hJ
  refine Rn_call srt58 89 rfl rfl rfl ⟨Nat.le_of_ble_eq_true rfl, Nat.le_of_ble_eq_true rfl, rfl, Nat.le_of_ble_eq_true rfl⟩ (k_X3_joined (d) h21) (show Rn N xs (d + 1) me58 226 [some (.ref 68), none, some (.int x2), some (.int (x3 + ci (-1))), some (.int x4), some (.int x5), none, some (.int x7)] [(.int v22), (.int ((x3 + ci (-1)) - (ci 1))), (.ref 70)] (SH, s) r from ?_)
  obtain ⟨s24, h23, hJ⟩ := m_b1 hJ
  refine Rn_call srt58 90 rfl rfl rfl ⟨Nat.le_of_ble_eq_true rfl, Nat.le_of_ble_eq_true rfl, rfl, Nat.le_of_ble_eq_true rfl⟩ (k_X11_put 70 (d) h23) (show Rn N xs (d + 1) me58 229 [some (.ref 68), none, some (.int x2), some (.int (x3 + ci (-1))), some (.int x4), some (.int x5), none, some (.int x7)] [] (SH, s24) r from ?_)
  exact Rn_weaken (a := [some (.ref 68), none, some (.int x2), some (.int (x3 + ci (-1))), some (.int x4), none, none, none]) (b := [some (.ref 68), none, some (.int x2), some (.int (x3 + ci (-1))), some (.int x4), some (.int x5), none, some (.int x7)]) (And.intro rfl (And.intro rfl (And.intro rfl (And.intro rfl trivial)))) rfl (k_X3_valueOf_229 d hJ hC)
def F_X3_valueOf_176 (x2 : Int32) (x3 : Int32) (x4 : Int32) (y1 : Int32) (y2 : Int32) (s : mG) : Option ((Int32 × Int32 × Int32 × mG) ⊕ (Int32 × mG)) :=
  b1 (F_X11_put 70 y1 y2 s) fun s30 =>
  F_X3_valueOf_229 x2 x3 x4 s30
set_option maxRecDepth 4000 in
theorem k_X3_valueOf_176 {N : Nat} {xs : Nat → Int32} (d : Nat) {r : Option Value × mH} {s : mG} {x2 : Int32} {x3 : Int32} {x4 : Int32} {y1 : Int32} {y2 : Int32} {τ : ((Int32 × Int32 × Int32 × mG) ⊕ (Int32 × mG))} (hJ : F_X3_valueOf_176 x2 x3 x4 y1 y2 s = some τ) (hC : (C_X3_valueOf_5 N xs d r (fun τ => r = (some (.int τ.1), (SH, τ.2)))) τ) : Rn N xs (d + 1) me58 176 [some (.ref 68), none, some (.int x2), some (.int x3), some (.int x4), none, none, none] [(.int y2), (.int y1), (.ref 70)] (SH, s) r := by
  unfold F_X3_valueOf_176 at hJ
  obtain ⟨s30, h29, hJ⟩ := m_b1 hJ
  refine Rn_call srt58 63 rfl rfl rfl ⟨Nat.le_of_ble_eq_true rfl, Nat.le_of_ble_eq_true rfl, rfl, Nat.le_of_ble_eq_true rfl⟩ (k_X11_put 70 (d) h29) (show Rn N xs (d + 1) me58 179 [some (.ref 68), none, some (.int x2), some (.int x3), some (.int x4), none, none, none] [] (SH, s30) r from ?_)
  refine Rn_sq srt58 64 1 (pc' := 229) (ls' := [some (.ref 68), none, some (.int x2), some (.int x3), some (.int x4), none, none, none]) (st' := []) (h1 := (SH, s30)) rfl ?_
  exact (k_X3_valueOf_229 d hJ hC)
def F_X3_valueOf_B5 (x2 : Int32) (x3 : Int32) (x4 : Int32) (s : mG) : Option ((Int32 × Int32 × Int32 × mG) ⊕ (Int32 × mG)) :=
  if x2 ≤ x4 then
    b1 (F_X11_cell 70 s (x3 - (ci 1))) fun v3 =>
    some (Sum.inr (v3, s))
  else
    b1 (F_X10_at 8 s x4 (ci 0)) fun v5 =>
    b1 (F_X10_at 8 s x4 (ci 0)) fun v7 =>
    b1 (F_X11_cell 70 s (x3 - (ci 1))) fun v9 =>
    if (v5 / (c16 10000)) = ci 0 then
      b1 (F_X11_put 70 x3 (rm v7 (c16 10000)) s) fun s12 =>
      F_X3_valueOf_229 x2 (x3 + ci 1) x4 s12
    else
    if (v5 / (c16 10000)) = ci 1 then
      b1 (F_X11_cell 69 s (rm v7 (c16 10000))) fun v15 =>
      b1 (F_X11_put 70 x3 v15 s) fun s17 =>
      F_X3_valueOf_229 x2 (x3 + ci 1) x4 s17
    else
    if (v5 / (c16 10000)) = ci 2 then
      F_X3_valueOf_199 x2 x3 x4 (v5 / (c16 10000)) v9 s
    else
    if (v5 / (c16 10000)) = ci 3 then
      F_X3_valueOf_199 x2 x3 x4 (v5 / (c16 10000)) v9 s
    else
    if (v5 / (c16 10000)) = ci 4 then
      F_X3_valueOf_199 x2 x3 x4 (v5 / (c16 10000)) v9 s
    else
    if (v5 / (c16 10000)) = ci 5 then
      if (rm v7 (c16 10000)) = 0 then
        F_X3_valueOf_176 x2 x3 x4 (x3 - (ci 1)) (ci 0) s
      else
        if (rm v7 (c16 10000)) = 0 then none else
        F_X3_valueOf_176 x2 x3 x4 (x3 - (ci 1)) (v9 / (rm v7 (c16 10000))) s
    else
    if (v5 / (c16 10000)) = ci 6 then
      F_X3_valueOf_199 x2 x3 x4 (v5 / (c16 10000)) v9 s
    else
    if (v5 / (c16 10000)) = ci 7 then
      F_X3_valueOf_199 x2 x3 x4 (v5 / (c16 10000)) v9 s
    else
    if (v5 / (c16 10000)) = ci 8 then
      F_X3_valueOf_199 x2 x3 x4 (v5 / (c16 10000)) v9 s
    else
    if (v5 / (c16 10000)) = ci 9 then
      b1 (F_X11_put 70 (x3 - (ci 1)) ((ci 1) - v9) s) fun s37 =>
      F_X3_valueOf_229 x2 x3 x4 s37
    else
    F_X3_valueOf_199 x2 x3 x4 (v5 / (c16 10000)) v9 s
set_option maxRecDepth 4000 in
theorem k_X3_valueOf_B5 {N : Nat} {xs : Nat → Int32} (d : Nat) {r : Option Value × mH} {s : mG} {x2 : Int32} {x3 : Int32} {x4 : Int32} {τ : ((Int32 × Int32 × Int32 × mG) ⊕ (Int32 × mG))} (hJ : F_X3_valueOf_B5 x2 x3 x4 s = some τ) (hC : (C_X3_valueOf_5 N xs d r (fun τ => r = (some (.int τ.1), (SH, τ.2)))) τ) : Rn N xs (d + 1) me58 5 [some (.ref 68), none, some (.int x2), some (.int x3), some (.int x4), none, none, none] [] (SH, s) r := by
  unfold F_X3_valueOf_B5 at hJ
  refine Rn_sq srt58 4 3 (pc' := (if x2 ≤ x4 then 235 else 11)) (ls' := [some (.ref 68), none, some (.int x2), some (.int x3), some (.int x4), none, none, none]) (st' := []) (h1 := (SH, s)) rfl (Rn_if (fun h1 => ?_) (fun h1 => ?_))
  · replace hJ := m_ifp h1 hJ
    refine Rn_sq srt58 93 5 (pc' := 242) (ls' := [some (.ref 68), none, some (.int x2), some (.int x3), some (.int x4), none, none, none]) (st' := [(.int (x3 - (ci 1))), (.ref 70)]) (h1 := (SH, s)) rfl ?_
    obtain ⟨v3, h2, hJ⟩ := m_b1 hJ
    refine Rn_call srt58 98 rfl rfl rfl ⟨Nat.le_of_ble_eq_true rfl, Nat.le_of_ble_eq_true rfl, rfl, Nat.le_of_ble_eq_true rfl⟩ (k_X11_cell 70 (d) h2) (show Rn N xs (d + 1) me58 245 [some (.ref 68), none, some (.int x2), some (.int x3), some (.int x4), none, none, none] [(.int v3)] (SH, s) r from ?_)
    rw [← Option.some.inj hJ] at hC
    have hC : r = (some (.int v3), (SH, s)) := hC
    subst hC
    exact Rn_ret srt58 99 rfl rfl rfl
  · replace hJ := m_ifn h1 hJ
    refine Rn_sq srt58 7 5 (pc' := 21) (ls' := [some (.ref 68), none, some (.int x2), some (.int x3), some (.int x4), none, none, none]) (st' := [(.int (ci 0)), (.int x4), (.ref 8)]) (h1 := (SH, s)) rfl ?_
    obtain ⟨v5, h4, hJ⟩ := m_b1 hJ
    refine Rn_call srt58 12 rfl rfl rfl ⟨Nat.le_of_ble_eq_true rfl, Nat.le_of_ble_eq_true rfl, rfl, Nat.le_of_ble_eq_true rfl⟩ (k_X10_at 8 (d) isT_8 h4) (show Rn N xs (d + 1) me58 24 [some (.ref 68), none, some (.int x2), some (.int x3), some (.int x4), none, none, none] [(.int v5)] (SH, s) r from ?_)
    refine Rn_sq srt58 13 1 (pc' := 27) (ls' := [some (.ref 68), none, some (.int x2), some (.int x3), some (.int x4), none, none, none]) (st' := [(.int (c16 10000)), (.int v5)]) (h1 := (SH, s)) rfl ?_
    refine Rn_ev srt58 14 rfl rfl rfl (op_idiv (by decide)) ?_
    refine Rn_sq srt58 15 6 (pc' := 40) (ls' := [some (.ref 68), none, some (.int x2), some (.int x3), some (.int x4), some (.int (v5 / (c16 10000))), none, none]) (st' := [(.int (ci 0)), (.int x4), (.ref 8)]) (h1 := (SH, s)) rfl ?_
    obtain ⟨v7, h6, hJ⟩ := m_b1 hJ
    refine Rn_call srt58 21 rfl rfl rfl ⟨Nat.le_of_ble_eq_true rfl, Nat.le_of_ble_eq_true rfl, rfl, Nat.le_of_ble_eq_true rfl⟩ (k_X10_at 8 (d) isT_8 h6) (show Rn N xs (d + 1) me58 43 [some (.ref 68), none, some (.int x2), some (.int x3), some (.int x4), some (.int (v5 / (c16 10000))), none, none] [(.int v7)] (SH, s) r from ?_)
    refine Rn_sq srt58 22 1 (pc' := 46) (ls' := [some (.ref 68), none, some (.int x2), some (.int x3), some (.int x4), some (.int (v5 / (c16 10000))), none, none]) (st' := [(.int (c16 10000)), (.int v7)]) (h1 := (SH, s)) rfl ?_
    refine Rn_ev srt58 23 rfl rfl rfl (op_irem (by decide)) ?_
    refine Rn_sq srt58 24 6 (pc' := 56) (ls' := [some (.ref 68), none, some (.int x2), some (.int x3), some (.int x4), some (.int (v5 / (c16 10000))), some (.int (rm v7 (c16 10000))), none]) (st' := [(.int (x3 - (ci 1))), (.ref 70)]) (h1 := (SH, s)) rfl ?_
    obtain ⟨v9, h8, hJ⟩ := m_b1 hJ
    refine Rn_call srt58 30 rfl rfl rfl ⟨Nat.le_of_ble_eq_true rfl, Nat.le_of_ble_eq_true rfl, rfl, Nat.le_of_ble_eq_true rfl⟩ (k_X11_cell 70 (d) h8) (show Rn N xs (d + 1) me58 59 [some (.ref 68), none, some (.int x2), some (.int x3), some (.int x4), some (.int (v5 / (c16 10000))), some (.int (rm v7 (c16 10000))), none] [(.int v9)] (SH, s) r from ?_)
    refine Rn_sq srt58 31 2 (pc' := 63) (ls' := [some (.ref 68), none, some (.int x2), some (.int x3), some (.int x4), some (.int (v5 / (c16 10000))), some (.int (rm v7 (c16 10000))), some (.int v9)]) (st' := [(.int (v5 / (c16 10000)))]) (h1 := (SH, s)) rfl ?_
    by_cases h10 : (v5 / (c16 10000)) = ci 0
    · replace hJ := m_ifp h10 hJ
      refine Rn_ev srt58 33 rfl rfl rfl (op_sw h10 (show _ = some (116, _) from rfl)) ?_
      refine Rn_sq srt58 34 4 (pc' := 123) (ls' := [some (.ref 68), none, some (.int x2), some (.int x3), some (.int x4), some (.int (v5 / (c16 10000))), some (.int (rm v7 (c16 10000))), some (.int v9)]) (st' := [(.int (rm v7 (c16 10000))), (.int x3), (.ref 70)]) (h1 := (SH, s)) rfl ?_
      obtain ⟨s12, h11, hJ⟩ := m_b1 hJ
      refine Rn_call srt58 38 rfl rfl rfl ⟨Nat.le_of_ble_eq_true rfl, Nat.le_of_ble_eq_true rfl, rfl, Nat.le_of_ble_eq_true rfl⟩ (k_X11_put 70 (d) h11) (show Rn N xs (d + 1) me58 126 [some (.ref 68), none, some (.int x2), some (.int x3), some (.int x4), some (.int (v5 / (c16 10000))), some (.int (rm v7 (c16 10000))), some (.int v9)] [] (SH, s12) r from ?_)
      refine Rn_sq srt58 39 2 (pc' := 229) (ls' := [some (.ref 68), none, some (.int x2), some (.int (x3 + ci 1)), some (.int x4), some (.int (v5 / (c16 10000))), some (.int (rm v7 (c16 10000))), some (.int v9)]) (st' := []) (h1 := (SH, s12)) rfl ?_
      exact Rn_weaken (a := [some (.ref 68), none, some (.int x2), some (.int (x3 + ci 1)), some (.int x4), none, none, none]) (b := [some (.ref 68), none, some (.int x2), some (.int (x3 + ci 1)), some (.int x4), some (.int (v5 / (c16 10000))), some (.int (rm v7 (c16 10000))), some (.int v9)]) (And.intro rfl (And.intro rfl (And.intro rfl (And.intro rfl trivial)))) rfl (k_X3_valueOf_229 d hJ hC)
    replace hJ := m_ifn h10 hJ
    by_cases h13 : (v5 / (c16 10000)) = ci 1
    · replace hJ := m_ifp h13 hJ
      refine Rn_ev srt58 33 rfl rfl rfl (op_sw h13 (show _ = some (132, _) from rfl)) ?_
      refine Rn_sq srt58 41 6 (pc' := 143) (ls' := [some (.ref 68), none, some (.int x2), some (.int x3), some (.int x4), some (.int (v5 / (c16 10000))), some (.int (rm v7 (c16 10000))), some (.int v9)]) (st' := [(.int (rm v7 (c16 10000))), (.ref 69), (.int x3), (.ref 70)]) (h1 := (SH, s)) rfl ?_
      obtain ⟨v15, h14, hJ⟩ := m_b1 hJ
      refine Rn_call srt58 47 rfl rfl rfl ⟨Nat.le_of_ble_eq_true rfl, Nat.le_of_ble_eq_true rfl, rfl, Nat.le_of_ble_eq_true rfl⟩ (k_X11_cell 69 (d) h14) (show Rn N xs (d + 1) me58 146 [some (.ref 68), none, some (.int x2), some (.int x3), some (.int x4), some (.int (v5 / (c16 10000))), some (.int (rm v7 (c16 10000))), some (.int v9)] [(.int v15), (.int x3), (.ref 70)] (SH, s) r from ?_)
      obtain ⟨s17, h16, hJ⟩ := m_b1 hJ
      refine Rn_call srt58 48 rfl rfl rfl ⟨Nat.le_of_ble_eq_true rfl, Nat.le_of_ble_eq_true rfl, rfl, Nat.le_of_ble_eq_true rfl⟩ (k_X11_put 70 (d) h16) (show Rn N xs (d + 1) me58 149 [some (.ref 68), none, some (.int x2), some (.int x3), some (.int x4), some (.int (v5 / (c16 10000))), some (.int (rm v7 (c16 10000))), some (.int v9)] [] (SH, s17) r from ?_)
      refine Rn_sq srt58 49 2 (pc' := 229) (ls' := [some (.ref 68), none, some (.int x2), some (.int (x3 + ci 1)), some (.int x4), some (.int (v5 / (c16 10000))), some (.int (rm v7 (c16 10000))), some (.int v9)]) (st' := []) (h1 := (SH, s17)) rfl ?_
      exact Rn_weaken (a := [some (.ref 68), none, some (.int x2), some (.int (x3 + ci 1)), some (.int x4), none, none, none]) (b := [some (.ref 68), none, some (.int x2), some (.int (x3 + ci 1)), some (.int x4), some (.int (v5 / (c16 10000))), some (.int (rm v7 (c16 10000))), some (.int v9)]) (And.intro rfl (And.intro rfl (And.intro rfl (And.intro rfl trivial)))) rfl (k_X3_valueOf_229 d hJ hC)
    replace hJ := m_ifn h13 hJ
    by_cases h18 : (v5 / (c16 10000)) = ci 2
    · replace hJ := m_ifp h18 hJ
      refine Rn_ev srt58 33 rfl rfl rfl (op_sw h18 (show _ = some (199, _) from rfl)) ?_
      exact Rn_weaken (a := [some (.ref 68), none, some (.int x2), some (.int x3), some (.int x4), some (.int (v5 / (c16 10000))), none, some (.int v9)]) (b := [some (.ref 68), none, some (.int x2), some (.int x3), some (.int x4), some (.int (v5 / (c16 10000))), some (.int (rm v7 (c16 10000))), some (.int v9)]) (And.intro rfl (And.intro rfl (And.intro rfl (And.intro rfl (And.intro rfl (And.intro rfl trivial)))))) rfl (k_X3_valueOf_199 d hJ hC)
    replace hJ := m_ifn h18 hJ
    by_cases h25 : (v5 / (c16 10000)) = ci 3
    · replace hJ := m_ifp h25 hJ
      refine Rn_ev srt58 33 rfl rfl rfl (op_sw h25 (show _ = some (199, _) from rfl)) ?_
      exact Rn_weaken (a := [some (.ref 68), none, some (.int x2), some (.int x3), some (.int x4), some (.int (v5 / (c16 10000))), none, some (.int v9)]) (b := [some (.ref 68), none, some (.int x2), some (.int x3), some (.int x4), some (.int (v5 / (c16 10000))), some (.int (rm v7 (c16 10000))), some (.int v9)]) (And.intro rfl (And.intro rfl (And.intro rfl (And.intro rfl (And.intro rfl (And.intro rfl trivial)))))) rfl (k_X3_valueOf_199 d hJ hC)
    replace hJ := m_ifn h25 hJ
    by_cases h26 : (v5 / (c16 10000)) = ci 4
    · replace hJ := m_ifp h26 hJ
      refine Rn_ev srt58 33 rfl rfl rfl (op_sw h26 (show _ = some (199, _) from rfl)) ?_
      exact Rn_weaken (a := [some (.ref 68), none, some (.int x2), some (.int x3), some (.int x4), some (.int (v5 / (c16 10000))), none, some (.int v9)]) (b := [some (.ref 68), none, some (.int x2), some (.int x3), some (.int x4), some (.int (v5 / (c16 10000))), some (.int (rm v7 (c16 10000))), some (.int v9)]) (And.intro rfl (And.intro rfl (And.intro rfl (And.intro rfl (And.intro rfl (And.intro rfl trivial)))))) rfl (k_X3_valueOf_199 d hJ hC)
    replace hJ := m_ifn h26 hJ
    by_cases h27 : (v5 / (c16 10000)) = ci 5
    · replace hJ := m_ifp h27 hJ
      refine Rn_ev srt58 33 rfl rfl rfl (op_sw h27 (show _ = some (155, _) from rfl)) ?_
      refine Rn_sq srt58 51 7 (pc' := (if (rm v7 (c16 10000)) = 0 then 167 else 171)) (ls' := [some (.ref 68), none, some (.int x2), some (.int x3), some (.int x4), some (.int (v5 / (c16 10000))), some (.int (rm v7 (c16 10000))), some (.int v9)]) (st' := [(.int (x3 - (ci 1))), (.ref 70)]) (h1 := (SH, s)) rfl (Rn_if (fun h28 => ?_) (fun h28 => ?_))
      · replace hJ := m_ifp h28 hJ
        refine Rn_sq srt58 58 2 (pc' := 176) (ls' := [some (.ref 68), none, some (.int x2), some (.int x3), some (.int x4), some (.int (v5 / (c16 10000))), some (.int (rm v7 (c16 10000))), some (.int v9)]) (st' := [(.int (ci 0)), (.int (x3 - (ci 1))), (.ref 70)]) (h1 := (SH, s)) rfl ?_
        exact Rn_weaken (a := [some (.ref 68), none, some (.int x2), some (.int x3), some (.int x4), none, none, none]) (b := [some (.ref 68), none, some (.int x2), some (.int x3), some (.int x4), some (.int (v5 / (c16 10000))), some (.int (rm v7 (c16 10000))), some (.int v9)]) (And.intro rfl (And.intro rfl (And.intro rfl (And.intro rfl trivial)))) rfl (k_X3_valueOf_176 d hJ hC)
      · replace hJ := m_ifn h28 hJ
        refine Rn_sq srt58 60 2 (pc' := 175) (ls' := [some (.ref 68), none, some (.int x2), some (.int x3), some (.int x4), some (.int (v5 / (c16 10000))), some (.int (rm v7 (c16 10000))), some (.int v9)]) (st' := [(.int (rm v7 (c16 10000))), (.int v9), (.int (x3 - (ci 1))), (.ref 70)]) (h1 := (SH, s)) rfl ?_
        obtain ⟨h31, hJ⟩ := m_gn hJ
        refine Rn_ev srt58 62 rfl rfl rfl (op_idiv h31) ?_
        exact Rn_weaken (a := [some (.ref 68), none, some (.int x2), some (.int x3), some (.int x4), none, none, none]) (b := [some (.ref 68), none, some (.int x2), some (.int x3), some (.int x4), some (.int (v5 / (c16 10000))), some (.int (rm v7 (c16 10000))), some (.int v9)]) (And.intro rfl (And.intro rfl (And.intro rfl (And.intro rfl trivial)))) rfl (k_X3_valueOf_176 d hJ hC)
    replace hJ := m_ifn h27 hJ
    by_cases h32 : (v5 / (c16 10000)) = ci 6
    · replace hJ := m_ifp h32 hJ
      refine Rn_ev srt58 33 rfl rfl rfl (op_sw h32 (show _ = some (199, _) from rfl)) ?_
      exact Rn_weaken (a := [some (.ref 68), none, some (.int x2), some (.int x3), some (.int x4), some (.int (v5 / (c16 10000))), none, some (.int v9)]) (b := [some (.ref 68), none, some (.int x2), some (.int x3), some (.int x4), some (.int (v5 / (c16 10000))), some (.int (rm v7 (c16 10000))), some (.int v9)]) (And.intro rfl (And.intro rfl (And.intro rfl (And.intro rfl (And.intro rfl (And.intro rfl trivial)))))) rfl (k_X3_valueOf_199 d hJ hC)
    replace hJ := m_ifn h32 hJ
    by_cases h33 : (v5 / (c16 10000)) = ci 7
    · replace hJ := m_ifp h33 hJ
      refine Rn_ev srt58 33 rfl rfl rfl (op_sw h33 (show _ = some (199, _) from rfl)) ?_
      exact Rn_weaken (a := [some (.ref 68), none, some (.int x2), some (.int x3), some (.int x4), some (.int (v5 / (c16 10000))), none, some (.int v9)]) (b := [some (.ref 68), none, some (.int x2), some (.int x3), some (.int x4), some (.int (v5 / (c16 10000))), some (.int (rm v7 (c16 10000))), some (.int v9)]) (And.intro rfl (And.intro rfl (And.intro rfl (And.intro rfl (And.intro rfl (And.intro rfl trivial)))))) rfl (k_X3_valueOf_199 d hJ hC)
    replace hJ := m_ifn h33 hJ
    by_cases h34 : (v5 / (c16 10000)) = ci 8
    · replace hJ := m_ifp h34 hJ
      refine Rn_ev srt58 33 rfl rfl rfl (op_sw h34 (show _ = some (199, _) from rfl)) ?_
      exact Rn_weaken (a := [some (.ref 68), none, some (.int x2), some (.int x3), some (.int x4), some (.int (v5 / (c16 10000))), none, some (.int v9)]) (b := [some (.ref 68), none, some (.int x2), some (.int x3), some (.int x4), some (.int (v5 / (c16 10000))), some (.int (rm v7 (c16 10000))), some (.int v9)]) (And.intro rfl (And.intro rfl (And.intro rfl (And.intro rfl (And.intro rfl (And.intro rfl trivial)))))) rfl (k_X3_valueOf_199 d hJ hC)
    replace hJ := m_ifn h34 hJ
    by_cases h35 : (v5 / (c16 10000)) = ci 9
    · replace hJ := m_ifp h35 hJ
      refine Rn_ev srt58 33 rfl rfl rfl (op_sw h35 (show _ = some (182, _) from rfl)) ?_
      refine Rn_sq srt58 65 8 (pc' := 193) (ls' := [some (.ref 68), none, some (.int x2), some (.int x3), some (.int x4), some (.int (v5 / (c16 10000))), some (.int (rm v7 (c16 10000))), some (.int v9)]) (st' := [(.int ((ci 1) - v9)), (.int (x3 - (ci 1))), (.ref 70)]) (h1 := (SH, s)) rfl ?_
      obtain ⟨s37, h36, hJ⟩ := m_b1 hJ
      refine Rn_call srt58 73 rfl rfl rfl ⟨Nat.le_of_ble_eq_true rfl, Nat.le_of_ble_eq_true rfl, rfl, Nat.le_of_ble_eq_true rfl⟩ (k_X11_put 70 (d) h36) (show Rn N xs (d + 1) me58 196 [some (.ref 68), none, some (.int x2), some (.int x3), some (.int x4), some (.int (v5 / (c16 10000))), some (.int (rm v7 (c16 10000))), some (.int v9)] [] (SH, s37) r from ?_)
      refine Rn_sq srt58 74 1 (pc' := 229) (ls' := [some (.ref 68), none, some (.int x2), some (.int x3), some (.int x4), some (.int (v5 / (c16 10000))), some (.int (rm v7 (c16 10000))), some (.int v9)]) (st' := []) (h1 := (SH, s37)) rfl ?_
      exact Rn_weaken (a := [some (.ref 68), none, some (.int x2), some (.int x3), some (.int x4), none, none, none]) (b := [some (.ref 68), none, some (.int x2), some (.int x3), some (.int x4), some (.int (v5 / (c16 10000))), some (.int (rm v7 (c16 10000))), some (.int v9)]) (And.intro rfl (And.intro rfl (And.intro rfl (And.intro rfl trivial)))) rfl (k_X3_valueOf_229 d hJ hC)
    replace hJ := m_ifn h35 hJ
    refine Rn_ev srt58 33 rfl rfl rfl (op_swd (tg := 199) (sw_out (by decide) (by decide) (by intro v hv1 hv2; rcases (show v = 0 ∨ v = 1 ∨ v = 2 ∨ v = 3 ∨ v = 4 ∨ v = 5 ∨ v = 6 ∨ v = 7 ∨ v = 8 ∨ v = 9 by omega) with rfl | rfl | rfl | rfl | rfl | rfl | rfl | rfl | rfl | rfl <;> assumption)) rfl) ?_
    exact Rn_weaken (a := [some (.ref 68), none, some (.int x2), some (.int x3), some (.int x4), some (.int (v5 / (c16 10000))), none, some (.int v9)]) (b := [some (.ref 68), none, some (.int x2), some (.int x3), some (.int x4), some (.int (v5 / (c16 10000))), some (.int (rm v7 (c16 10000))), some (.int v9)]) (And.intro rfl (And.intro rfl (And.intro rfl (And.intro rfl (And.intro rfl (And.intro rfl trivial)))))) rfl (k_X3_valueOf_199 d hJ hC)
def F_X3_valueOf_L5 (x2 : Int32) (x3 : Int32) (x4 : Int32) (s : mG) : Option (Int32 × mG) := whl (fun (v : (Int32 × Int32 × Int32 × mG)) => F_X3_valueOf_B5 v.1 v.2.1 v.2.2.1 v.2.2.2) (x2, x3, x4, s)
theorem k_X3_valueOf_L5 {N : Nat} {xs : Nat → Int32} (d : Nat) {r : Option Value × mH} {s : mG} {x2 : Int32} {x3 : Int32} {x4 : Int32} {τ : (Int32 × mG)} (hJ : F_X3_valueOf_L5 x2 x3 x4 s = some τ) (hC : (fun τ => r = (some (.int τ.1), (SH, τ.2))) τ) : Rn N xs (d + 1) me58 5 [some (.ref 68), none, some (.int x2), some (.int x3), some (.int x4), none, none, none] [] (SH, s) r :=
  whl_link (P := fun (v : (Int32 × Int32 × Int32 × mG)) => Rn N xs (d + 1) me58 5 [some (.ref 68), none, some (.int v.1), some (.int v.2.1), some (.int v.2.2.1), none, none, none] [] (SH, v.2.2.2) r) (C := (C_X3_valueOf_5 N xs d r (fun τ => r = (some (.int τ.1), (SH, τ.2))))) (fun v τ h1 h2 => k_X3_valueOf_B5 d h1 h2) (fun _ h => h) (fun _ h => h) _ _ hJ hC
def F_X3_valueOf (a1 : Int32) (a2 : Int32) (s : mG) : Option (Int32 × mG) :=
  F_X3_valueOf_L5 a2 (ci 0) a1 s
set_option maxRecDepth 4000 in
theorem k_X3_valueOf_r {N : Nat} {xs : Nat → Int32} (d : Nat) {r : Option Value × mH} {s : mG} {a1 : Int32} {a2 : Int32} {τ : (Int32 × mG)} (hJ : F_X3_valueOf a1 a2 s = some τ) (hC : (fun τ => r = (some (.int τ.1), (SH, τ.2))) τ) : Rn N xs (d + 1) me58 0 [some (.ref 68), some (.int a1), some (.int a2), none, none, none, none, none] [] (SH, s) r := by
  unfold F_X3_valueOf at hJ
  refine Rn_sq srt58 0 4 (pc' := 5) (ls' := [some (.ref 68), some (.int a1), some (.int a2), some (.int (ci 0)), some (.int a1), none, none, none]) (st' := []) (h1 := (SH, s)) rfl ?_
  exact Rn_weaken (a := [some (.ref 68), none, some (.int a2), some (.int (ci 0)), some (.int a1), none, none, none]) (b := [some (.ref 68), some (.int a1), some (.int a2), some (.int (ci 0)), some (.int a1), none, none, none]) (And.intro rfl (And.intro rfl (And.intro rfl (And.intro rfl trivial)))) rfl (k_X3_valueOf_L5 d hJ hC)
theorem k_X3_valueOf {N : Nat} {xs : Nat → Int32} (d : Nat) {s : mG} {a1 : Int32} {a2 : Int32} {τ : (Int32 × mG)} (hJ : F_X3_valueOf a1 a2 s = some τ) : Rn N xs (d + 1) me58 0 [some (.ref 68), some (.int a1), some (.int a2), none, none, none, none, none] [] (SH, s) (some (.int τ.1), (SH, τ.2)) := k_X3_valueOf_r d hJ rfl
/-! IsHeIn$Belief.sureOf(I)I -/
theorem srt1 : m_srt mc1 = true := by decide +kernel
def F_X0_sureOf (a1 : Int32) (s : mG) : Option (Int32 × mG) :=
  b1 (F_X0_glanceAt a1 s) fun s2 =>
  b2 (F_X0_sureByGlance a1 s2) fun v5 s4 =>
  some (v5, s4)
set_option maxRecDepth 4000 in
theorem k_X0_sureOf_r {N : Nat} {xs : Nat → Int32} (d : Nat) {r : Option Value × mH} {s : mG} {a1 : Int32} {τ : (Int32 × mG)} (hJ : F_X0_sureOf a1 s = some τ) (hC : (fun τ => r = (some (.int τ.1), (SH, τ.2))) τ) : Rn N xs (d + 4) me1 0 [some (.ref 73), some (.int a1)] [] (SH, s) r := by
  unfold F_X0_sureOf at hJ
  refine Rn_sq srt1 0 2 (pc' := 2) (ls' := [some (.ref 73), some (.int a1)]) (st' := [(.int a1), (.ref 73)]) (h1 := (SH, s)) rfl ?_
  obtain ⟨s2, h1, hJ⟩ := m_b1 hJ
  refine Rn_call srt1 2 rfl rfl rfl ⟨Nat.le_of_ble_eq_true rfl, Nat.le_of_ble_eq_true rfl, rfl, Nat.le_of_ble_eq_true rfl⟩ (k_X0_glanceAt (d + 2) h1) (show Rn N xs (d + 4) me1 5 [some (.ref 73), some (.int a1)] [] (SH, s2) r from ?_)
  refine Rn_sq srt1 3 2 (pc' := 7) (ls' := [some (.ref 73), some (.int a1)]) (st' := [(.int a1), (.ref 73)]) (h1 := (SH, s2)) rfl ?_
  obtain ⟨v5, s4, h3, hJ⟩ := m_b2 hJ
  refine Rn_call srt1 5 rfl rfl rfl ⟨Nat.le_of_ble_eq_true rfl, Nat.le_of_ble_eq_true rfl, rfl, Nat.le_of_ble_eq_true rfl⟩ (k_X0_sureByGlance (d) h3) (show Rn N xs (d + 4) me1 10 [some (.ref 73), some (.int a1)] [(.int v5)] (SH, s4) r from ?_)
  rw [← Option.some.inj hJ] at hC
  have hC : r = (some (.int v5), (SH, s4)) := hC
  subst hC
  exact Rn_ret srt1 6 rfl rfl rfl
theorem k_X0_sureOf {N : Nat} {xs : Nat → Int32} (d : Nat) {s : mG} {a1 : Int32} {τ : (Int32 × mG)} (hJ : F_X0_sureOf a1 s = some τ) : Rn N xs (d + 4) me1 0 [some (.ref 73), some (.int a1)] [] (SH, s) (some (.int τ.1), (SH, τ.2)) := k_X0_sureOf_r d hJ rfl
/-! IsHeIn$Belief.isBestSaidIn(JII)Z -/
theorem srt10 : m_srt mc10 = true := by decide +kernel
def F_X0_isBestSaidIn (s : mG) (a1 : Int64) (a2 : Int32) (a3 : Int32) : Option (Int32) :=
  if 0 < (lg_cmp (((cl 1000000) - a1) * a2.toInt64) (a1 * a3.toInt64)) then
    some (ci 0)
  else
    some (ci 1)
set_option maxRecDepth 4000 in
theorem k_X0_isBestSaidIn_r {N : Nat} {xs : Nat → Int32} (d : Nat) {r : Option Value × mH} {s : mG} {a1 : Int64} {a2 : Int32} {a3 : Int32} {τ : (Int32)} (hJ : F_X0_isBestSaidIn s a1 a2 a3 = some τ) (hC : (fun τ => r = (some (.int τ), (SH, s))) τ) : Rn N xs (d + 0) me10 0 [some (.long a1), none, some (.int a2), some (.int a3)] [] (SH, s) r := by
  unfold F_X0_isBestSaidIn at hJ
  refine Rn_sq srt10 0 12 (pc' := (if 0 < (lg_cmp (((cl 1000000) - a1) * a2.toInt64) (a1 * a3.toInt64)) then 20 else 16)) (ls' := [some (.long a1), none, some (.int a2), some (.int a3)]) (st' := []) (h1 := (SH, s)) rfl (Rn_if (fun h1 => ?_) (fun h1 => ?_))
  · replace hJ := m_ifp h1 hJ
    refine Rn_sq srt10 14 1 (pc' := 21) (ls' := [some (.long a1), none, some (.int a2), some (.int a3)]) (st' := [(.int (ci 0))]) (h1 := (SH, s)) rfl ?_
    rw [← Option.some.inj hJ] at hC
    have hC : r = (some (.int (ci 0)), (SH, s)) := hC
    subst hC
    exact Rn_ret srt10 15 rfl rfl (m_ret_b rfl (by decide))
  · replace hJ := m_ifn h1 hJ
    refine Rn_sq srt10 12 2 (pc' := 21) (ls' := [some (.long a1), none, some (.int a2), some (.int a3)]) (st' := [(.int (ci 1))]) (h1 := (SH, s)) rfl ?_
    rw [← Option.some.inj hJ] at hC
    have hC : r = (some (.int (ci 1)), (SH, s)) := hC
    subst hC
    exact Rn_ret srt10 15 rfl rfl (m_ret_b rfl (by decide))
theorem k_X0_isBestSaidIn {N : Nat} {xs : Nat → Int32} (d : Nat) {s : mG} {a1 : Int64} {a2 : Int32} {a3 : Int32} {τ : (Int32)} (hJ : F_X0_isBestSaidIn s a1 a2 a3 = some τ) : Rn N xs (d + 0) me10 0 [some (.long a1), none, some (.int a2), some (.int a3)] [] (SH, s) (some (.int τ), (SH, s)) := k_X0_isBestSaidIn_r d hJ rfl
/-! IsHeIn$Belief.saysIn(III)Z -/
theorem srt9 : m_srt mc9 = true := by decide +kernel
def F_X0_saysIn (a1 : Int32) (a2 : Int32) (a3 : Int32) (s : mG) : Option (Int32 × mG) :=
  b2 (F_X0_sureOf a1 s) fun v3 s2 =>
  b1 (F_X0_isBestSaidIn s2 v3.toInt64 a2 a3) fun v5 =>
  if v5 = 0 ∨ v5 = 1 then
    some (v5, s2)
  else none
set_option maxRecDepth 4000 in
theorem k_X0_saysIn_r {N : Nat} {xs : Nat → Int32} (d : Nat) {r : Option Value × mH} {s : mG} {a1 : Int32} {a2 : Int32} {a3 : Int32} {τ : (Int32 × mG)} (hJ : F_X0_saysIn a1 a2 a3 s = some τ) (hC : (fun τ => r = (some (.int τ.1), (SH, τ.2))) τ) : Rn N xs (d + 5) me9 0 [some (.ref 73), some (.int a1), some (.int a2), some (.int a3)] [] (SH, s) r := by
  unfold F_X0_saysIn at hJ
  refine Rn_sq srt9 0 2 (pc' := 2) (ls' := [some (.ref 73), some (.int a1), some (.int a2), some (.int a3)]) (st' := [(.int a1), (.ref 73)]) (h1 := (SH, s)) rfl ?_
  obtain ⟨v3, s2, h1, hJ⟩ := m_b2 hJ
  refine Rn_call srt9 2 rfl rfl rfl ⟨Nat.le_of_ble_eq_true rfl, Nat.le_of_ble_eq_true rfl, rfl, Nat.le_of_ble_eq_true rfl⟩ (k_X0_sureOf (d) h1) (show Rn N xs (d + 5) me9 5 [some (.ref 73), some (.int a1), some (.int a2), some (.int a3)] [(.int v3)] (SH, s2) r from ?_)
  refine Rn_sq srt9 3 3 (pc' := 8) (ls' := [some (.ref 73), some (.int a1), some (.int a2), some (.int a3)]) (st' := [(.int a3), (.int a2), (.long v3.toInt64)]) (h1 := (SH, s2)) rfl ?_
  obtain ⟨v5, h4, hJ⟩ := m_b1 hJ
  refine Rn_call srt9 6 rfl rfl rfl ⟨Nat.le_of_ble_eq_true rfl, Nat.le_of_ble_eq_true rfl, rfl, Nat.le_of_ble_eq_true rfl⟩ (k_X0_isBestSaidIn (d + 4) h4) (show Rn N xs (d + 5) me9 11 [some (.ref 73), some (.int a1), some (.int a2), some (.int a3)] [(.int v5)] (SH, s2) r from ?_)
  obtain ⟨h6, hJ⟩ := m_gp hJ
  rw [← Option.some.inj hJ] at hC
  have hC : r = (some (.int v5), (SH, s2)) := hC
  subst hC
  exact Rn_ret srt9 7 rfl rfl (m_ret_b rfl h6)
theorem k_X0_saysIn {N : Nat} {xs : Nat → Int32} (d : Nat) {s : mG} {a1 : Int32} {a2 : Int32} {a3 : Int32} {τ : (Int32 × mG)} (hJ : F_X0_saysIn a1 a2 a3 s = some τ) : Rn N xs (d + 5) me9 0 [some (.ref 73), some (.int a1), some (.int a2), some (.int a3)] [] (SH, s) (some (.int τ.1), (SH, τ.2)) := k_X0_saysIn_r d hJ rfl
/-! IsHeIn$Table.put(III)V -/
theorem srt134 : m_srt mc134 = true := by decide +kernel
def F_X10_put_39 (t : Nat) (x3 : Int32) (x4 : Int32) (y0 : Int32) (s : mG) : Option (mG) :=
  if y0 = 0 then
    some s
  else
    if x4 < 0 then
      some s
    else
      if (cn (m_alen (t + 1))) ≤ x4 then
        some s
      else
        if x4 < 0 ∨ m_alen (t + 1) ≤ x4.toNatClampNeg then none else
        let s7 : mG := (mu s.1 (t + 1) x4.toNatClampNeg x3, s.2)
        some s7
set_option maxRecDepth 4000 in
theorem k_X10_put_39 {N : Nat} {xs : Nat → Int32} (t : Nat) (d : Nat) (h_t : isT t) {r : Option Value × mH} {s : mG} {x3 : Int32} {x4 : Int32} {y0 : Int32} {τ : (mG)} (hJ : F_X10_put_39 t x3 x4 y0 s = some τ) (hC : (fun τ => r = (none, (SH, τ))) τ) : Rn N xs (d + 0) me134 39 [some (.ref t), none, none, some (.int x3), some (.int x4), none] [(.int y0)] (SH, s) r := by
  unfold F_X10_put_39 at hJ
  refine Rn_sq srt134 22 3 (pc' := (if y0 = 0 then 69 else 46)) (ls' := [some (.ref t), none, none, some (.int x3), some (.int x4), some (.int y0)]) (st' := []) (h1 := (SH, s)) rfl (Rn_if (fun h3 => ?_) (fun h3 => ?_))
  · replace hJ := m_ifp h3 hJ
    rw [← Option.some.inj hJ] at hC
    have hC : r = (none, (SH, s)) := hC
    subst hC
    exact Rn_ret srt134 37 rfl rfl rfl
  · replace hJ := m_ifn h3 hJ
    refine Rn_sq srt134 25 2 (pc' := (if x4 < 0 then 69 else 51)) (ls' := [some (.ref t), none, none, some (.int x3), some (.int x4), some (.int y0)]) (st' := []) (h1 := (SH, s)) rfl (Rn_if (fun h4 => ?_) (fun h4 => ?_))
    · replace hJ := m_ifp h4 hJ
      rw [← Option.some.inj hJ] at hC
      have hC : r = (none, (SH, s)) := hC
      subst hC
      exact Rn_ret srt134 37 rfl rfl rfl
    · replace hJ := m_ifn h4 hJ
      refine Rn_sq srt134 27 2 (pc' := 54) (ls' := [some (.ref t), none, none, some (.int x3), some (.int x4), some (.int y0)]) (st' := [(.ref t), (.int x4)]) (h1 := (SH, s)) rfl ?_
      refine Rn_ev srt134 29 rfl rfl rfl (op_gfT2 h_t) ?_
      refine Rn_ev srt134 30 rfl rfl rfl (op_alT h_t) ?_
      refine Rn_sq srt134 31 1 (pc' := (if (cn (m_alen (t + 1))) ≤ x4 then 69 else 61)) (ls' := [some (.ref t), none, none, some (.int x3), some (.int x4), some (.int y0)]) (st' := []) (h1 := (SH, s)) rfl (Rn_if (fun h5 => ?_) (fun h5 => ?_))
      · replace hJ := m_ifp h5 hJ
        rw [← Option.some.inj hJ] at hC
        have hC : r = (none, (SH, s)) := hC
        subst hC
        exact Rn_ret srt134 37 rfl rfl rfl
      · replace hJ := m_ifn h5 hJ
        refine Rn_sq srt134 32 1 (pc' := 62) (ls' := [some (.ref t), none, none, some (.int x3), some (.int x4), some (.int y0)]) (st' := [(.ref t)]) (h1 := (SH, s)) rfl ?_
        refine Rn_ev srt134 33 rfl rfl rfl (op_gfT2 h_t) ?_
        refine Rn_sq srt134 34 2 (pc' := 68) (ls' := [some (.ref t), none, none, some (.int x3), some (.int x4), some (.int y0)]) (st' := [(.int x3), (.int x4), (.ref (t + 1))]) (h1 := (SH, s)) rfl ?_
        obtain ⟨h6, hJ⟩ := m_gn hJ
        extract_lets s7 at hJ
        refine Rn_ev srt134 36 rfl rfl rfl (op_ias h_t.2 h6 (k := x4.toNatClampNeg) rfl) ?_
        rw [← Option.some.inj hJ] at hC
        have hC : r = (none, (SH, s7)) := hC
        subst hC
        exact Rn_ret srt134 37 rfl rfl rfl
def F_X10_put_38 (t : Nat) (x3 : Int32) (x4 : Int32) (s : mG) : Option (mG) :=
  F_X10_put_39 t x3 x4 (ci 0) s
set_option maxRecDepth 4000 in
theorem k_X10_put_38 {N : Nat} {xs : Nat → Int32} (t : Nat) (d : Nat) (h_t : isT t) {r : Option Value × mH} {s : mG} {x3 : Int32} {x4 : Int32} {τ : (mG)} (hJ : F_X10_put_38 t x3 x4 s = some τ) (hC : (fun τ => r = (none, (SH, τ))) τ) : Rn N xs (d + 0) me134 38 [some (.ref t), none, none, some (.int x3), some (.int x4), none] [] (SH, s) r := by
  unfold F_X10_put_38 at hJ
  refine Rn_sq srt134 21 1 (pc' := 39) (ls' := [some (.ref t), none, none, some (.int x3), some (.int x4), none]) (st' := [(.int (ci 0))]) (h1 := (SH, s)) rfl ?_
  exact (k_X10_put_39 t d h_t hJ hC)
def F_X10_put (t : Nat) (a1 : Int32) (a2 : Int32) (a3 : Int32) (s : mG) : Option (mG) :=
  let v1 : Int32 := ((a1 * (s.1 t 1)) + a2)
  if a1 < 0 then
    F_X10_put_38 t a3 v1 s
  else
    if (s.1 t 3) ≤ a1 then
      F_X10_put_38 t a3 v1 s
    else
      if a2 < 0 then
        F_X10_put_38 t a3 v1 s
      else
        if (s.1 t 1) ≤ a2 then
          F_X10_put_38 t a3 v1 s
        else
          F_X10_put_39 t a3 v1 (ci 1) s
set_option maxRecDepth 4000 in
theorem k_X10_put_r {N : Nat} {xs : Nat → Int32} (t : Nat) (d : Nat) (h_t : isT t) {r : Option Value × mH} {s : mG} {a1 : Int32} {a2 : Int32} {a3 : Int32} {τ : (mG)} (hJ : F_X10_put t a1 a2 a3 s = some τ) (hC : (fun τ => r = (none, (SH, τ))) τ) : Rn N xs (d + 0) me134 0 [some (.ref t), some (.int a1), some (.int a2), some (.int a3), none, none] [] (SH, s) r := by
  unfold F_X10_put at hJ
  refine Rn_sq srt134 0 2 (pc' := 2) (ls' := [some (.ref t), some (.int a1), some (.int a2), some (.int a3), none, none]) (st' := [(.ref t), (.int a1)]) (h1 := (SH, s)) rfl ?_
  refine Rn_ev srt134 2 rfl rfl rfl (op_gfT1 h_t) ?_
  extract_lets v1 at hJ
  refine Rn_sq srt134 3 6 (pc' := (if a1 < 0 then 38 else 14)) (ls' := [some (.ref t), some (.int a1), some (.int a2), some (.int a3), some (.int v1), none]) (st' := []) (h1 := (SH, s)) rfl (Rn_if (fun h2 => ?_) (fun h2 => ?_))
  · replace hJ := m_ifp h2 hJ
    exact Rn_weaken (a := [some (.ref t), none, none, some (.int a3), some (.int v1), none]) (b := [some (.ref t), some (.int a1), some (.int a2), some (.int a3), some (.int v1), none]) (And.intro rfl (And.intro rfl (And.intro rfl trivial))) rfl (k_X10_put_38 t d h_t hJ hC)
  · replace hJ := m_ifn h2 hJ
    refine Rn_sq srt134 9 2 (pc' := 16) (ls' := [some (.ref t), some (.int a1), some (.int a2), some (.int a3), some (.int v1), none]) (st' := [(.ref t), (.int a1)]) (h1 := (SH, s)) rfl ?_
    refine Rn_ev srt134 11 rfl rfl rfl (op_gfT3 h_t) ?_
    refine Rn_sq srt134 12 1 (pc' := (if (s.1 t 3) ≤ a1 then 38 else 22)) (ls' := [some (.ref t), some (.int a1), some (.int a2), some (.int a3), some (.int v1), none]) (st' := []) (h1 := (SH, s)) rfl (Rn_if (fun h8 => ?_) (fun h8 => ?_))
    · replace hJ := m_ifp h8 hJ
      exact Rn_weaken (a := [some (.ref t), none, none, some (.int a3), some (.int v1), none]) (b := [some (.ref t), some (.int a1), some (.int a2), some (.int a3), some (.int v1), none]) (And.intro rfl (And.intro rfl (And.intro rfl trivial))) rfl (k_X10_put_38 t d h_t hJ hC)
    · replace hJ := m_ifn h8 hJ
      refine Rn_sq srt134 13 2 (pc' := (if a2 < 0 then 38 else 26)) (ls' := [some (.ref t), some (.int a1), some (.int a2), some (.int a3), some (.int v1), none]) (st' := []) (h1 := (SH, s)) rfl (Rn_if (fun h9 => ?_) (fun h9 => ?_))
      · replace hJ := m_ifp h9 hJ
        exact Rn_weaken (a := [some (.ref t), none, none, some (.int a3), some (.int v1), none]) (b := [some (.ref t), some (.int a1), some (.int a2), some (.int a3), some (.int v1), none]) (And.intro rfl (And.intro rfl (And.intro rfl trivial))) rfl (k_X10_put_38 t d h_t hJ hC)
      · replace hJ := m_ifn h9 hJ
        refine Rn_sq srt134 15 2 (pc' := 28) (ls' := [some (.ref t), some (.int a1), some (.int a2), some (.int a3), some (.int v1), none]) (st' := [(.ref t), (.int a2)]) (h1 := (SH, s)) rfl ?_
        refine Rn_ev srt134 17 rfl rfl rfl (op_gfT1 h_t) ?_
        refine Rn_sq srt134 18 1 (pc' := (if (s.1 t 1) ≤ a2 then 38 else 34)) (ls' := [some (.ref t), some (.int a1), some (.int a2), some (.int a3), some (.int v1), none]) (st' := []) (h1 := (SH, s)) rfl (Rn_if (fun h10 => ?_) (fun h10 => ?_))
        · replace hJ := m_ifp h10 hJ
          exact Rn_weaken (a := [some (.ref t), none, none, some (.int a3), some (.int v1), none]) (b := [some (.ref t), some (.int a1), some (.int a2), some (.int a3), some (.int v1), none]) (And.intro rfl (And.intro rfl (And.intro rfl trivial))) rfl (k_X10_put_38 t d h_t hJ hC)
        · replace hJ := m_ifn h10 hJ
          refine Rn_sq srt134 19 2 (pc' := 39) (ls' := [some (.ref t), some (.int a1), some (.int a2), some (.int a3), some (.int v1), none]) (st' := [(.int (ci 1))]) (h1 := (SH, s)) rfl ?_
          exact Rn_weaken (a := [some (.ref t), none, none, some (.int a3), some (.int v1), none]) (b := [some (.ref t), some (.int a1), some (.int a2), some (.int a3), some (.int v1), none]) (And.intro rfl (And.intro rfl (And.intro rfl trivial))) rfl (k_X10_put_39 t d h_t hJ hC)
theorem k_X10_put {N : Nat} {xs : Nat → Int32} (t : Nat) (d : Nat) (h_t : isT t) {s : mG} {a1 : Int32} {a2 : Int32} {a3 : Int32} {τ : (mG)} (hJ : F_X10_put t a1 a2 a3 s = some τ) : Rn N xs (d + 0) me134 0 [some (.ref t), some (.int a1), some (.int a2), some (.int a3), none, none] [] (SH, s) (none, (SH, τ)) := k_X10_put_r t d h_t hJ rfl
end
end
