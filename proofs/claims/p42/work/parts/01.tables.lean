-- ===== PART A: goes FIRST, ahead of the names: the tables' words, and 'selects' of the private methods out of them =====
/-- a private method of a class that the tables say can be made, by its rows of tables_1 -/
def lw_okq (q : MethodName × Nat) : Prop := (q.1.cls ≠ "java/lang/invoke/MethodHandle" ∧ q.1.cls ≠ "java/lang/invoke/VarHandle") ∧ Cond.instantiable q.1.cls q.2 ∈ tables_1 ∧ Cond.privateMethod q.1 ∈ tables_1 ∧ Cond.instanceMethod q.1 ∈ tables_1
theorem lw_p0 : lw_okq (⟨"IsHeIn", "canSet", "(III)Z"⟩, 11) := ⟨⟨by decide +kernel, by decide +kernel⟩, List.mem_of_getElem? (i := 21) (by decide +kernel), List.mem_of_getElem? (i := 437) (by decide +kernel), List.mem_of_getElem? (i := 438) (by decide +kernel)⟩
theorem lw_p1 : lw_okq (⟨"IsHeIn$Past", "momentAt", "(I)LIsHeIn$Moment;"⟩, 3) := ⟨⟨by decide +kernel, by decide +kernel⟩, List.mem_of_getElem? (i := 138) (by decide +kernel), List.mem_of_getElem? (i := 474) (by decide +kernel), List.mem_of_getElem? (i := 475) (by decide +kernel)⟩
theorem lw_p2 : lw_okq (⟨"IsHeIn$Porter", "ask", "(I)V"⟩, 3) := ⟨⟨by decide +kernel, by decide +kernel⟩, List.mem_of_getElem? (i := 260) (by decide +kernel), List.mem_of_getElem? (i := 512) (by decide +kernel), List.mem_of_getElem? (i := 513) (by decide +kernel)⟩
theorem lw_p3 : lw_okq (⟨"IsHeIn$Law", "valueOf", "(II)I"⟩, 3) := ⟨⟨by decide +kernel, by decide +kernel⟩, List.mem_of_getElem? (i := 244) (by decide +kernel), List.mem_of_getElem? (i := 532) (by decide +kernel), List.mem_of_getElem? (i := 533) (by decide +kernel)⟩
theorem lw_p4 : lw_okq (⟨"IsHeIn$Porter", "comes", "(I)Z"⟩, 3) := ⟨⟨by decide +kernel, by decide +kernel⟩, List.mem_of_getElem? (i := 260) (by decide +kernel), List.mem_of_getElem? (i := 547) (by decide +kernel), List.mem_of_getElem? (i := 548) (by decide +kernel)⟩
theorem lw_p5 : lw_okq (⟨"IsHeIn$Porter", "isDrawn", "(I)Z"⟩, 3) := ⟨⟨by decide +kernel, by decide +kernel⟩, List.mem_of_getElem? (i := 260) (by decide +kernel), List.mem_of_getElem? (i := 551) (by decide +kernel), List.mem_of_getElem? (i := 552) (by decide +kernel)⟩
theorem lw_p6 : lw_okq (⟨"IsHeIn$Porter", "goes", "(I)Z"⟩, 3) := ⟨⟨by decide +kernel, by decide +kernel⟩, List.mem_of_getElem? (i := 260) (by decide +kernel), List.mem_of_getElem? (i := 568) (by decide +kernel), List.mem_of_getElem? (i := 569) (by decide +kernel)⟩
theorem lw_p7 : lw_okq (⟨"IsHeIn$Porter", "hangKey", "(I)V"⟩, 3) := ⟨⟨by decide +kernel, by decide +kernel⟩, List.mem_of_getElem? (i := 260) (by decide +kernel), List.mem_of_getElem? (i := 572) (by decide +kernel), List.mem_of_getElem? (i := 573) (by decide +kernel)⟩
theorem lw_p8 : lw_okq (⟨"IsHeIn$Reader", "splitTape", "()V"⟩, 17) := ⟨⟨by decide +kernel, by decide +kernel⟩, List.mem_of_getElem? (i := 177) (by decide +kernel), List.mem_of_getElem? (i := 604) (by decide +kernel), List.mem_of_getElem? (i := 605) (by decide +kernel)⟩
theorem lw_p9 : lw_okq (⟨"IsHeIn$Reader", "skipBlanks", "()Z"⟩, 17) := ⟨⟨by decide +kernel, by decide +kernel⟩, List.mem_of_getElem? (i := 177) (by decide +kernel), List.mem_of_getElem? (i := 612) (by decide +kernel), List.mem_of_getElem? (i := 613) (by decide +kernel)⟩
theorem lw_p10 : lw_okq (⟨"IsHeIn$Reader", "splitWord", "()V"⟩, 17) := ⟨⟨by decide +kernel, by decide +kernel⟩, List.mem_of_getElem? (i := 177) (by decide +kernel), List.mem_of_getElem? (i := 623) (by decide +kernel), List.mem_of_getElem? (i := 624) (by decide +kernel)⟩
theorem lw_p11 : lw_okq (⟨"IsHeIn$Reader", "wordNumber", "(I)I"⟩, 17) := ⟨⟨by decide +kernel, by decide +kernel⟩, List.mem_of_getElem? (i := 177) (by decide +kernel), List.mem_of_getElem? (i := 627) (by decide +kernel), List.mem_of_getElem? (i := 628) (by decide +kernel)⟩
theorem lw_p12 : lw_okq (⟨"IsHeIn$Reader", "isWord", "(III)Z"⟩, 17) := ⟨⟨by decide +kernel, by decide +kernel⟩, List.mem_of_getElem? (i := 177) (by decide +kernel), List.mem_of_getElem? (i := 680) (by decide +kernel), List.mem_of_getElem? (i := 681) (by decide +kernel)⟩
theorem lw_p13 : lw_okq (⟨"IsHeIn$Reader", "addToken", "(III)V"⟩, 17) := ⟨⟨by decide +kernel, by decide +kernel⟩, List.mem_of_getElem? (i := 177) (by decide +kernel), List.mem_of_getElem? (i := 685) (by decide +kernel), List.mem_of_getElem? (i := 686) (by decide +kernel)⟩
theorem lw_p14 : lw_okq (⟨"IsHeIn$Reader", "splitNumber", "()V"⟩, 17) := ⟨⟨by decide +kernel, by decide +kernel⟩, List.mem_of_getElem? (i := 177) (by decide +kernel), List.mem_of_getElem? (i := 694) (by decide +kernel), List.mem_of_getElem? (i := 695) (by decide +kernel)⟩
theorem lw_p15 : lw_okq (⟨"IsHeIn$Reader", "stepOn", "()V"⟩, 17) := ⟨⟨by decide +kernel, by decide +kernel⟩, List.mem_of_getElem? (i := 177) (by decide +kernel), List.mem_of_getElem? (i := 698) (by decide +kernel), List.mem_of_getElem? (i := 699) (by decide +kernel)⟩
def lw_privs_1 : List (MethodName × Nat) := [(⟨"IsHeIn", "canSet", "(III)Z"⟩, 11), (⟨"IsHeIn$Past", "momentAt", "(I)LIsHeIn$Moment;"⟩, 3), (⟨"IsHeIn$Porter", "ask", "(I)V"⟩, 3), (⟨"IsHeIn$Law", "valueOf", "(II)I"⟩, 3), (⟨"IsHeIn$Porter", "comes", "(I)Z"⟩, 3), (⟨"IsHeIn$Porter", "isDrawn", "(I)Z"⟩, 3), (⟨"IsHeIn$Porter", "goes", "(I)Z"⟩, 3), (⟨"IsHeIn$Porter", "hangKey", "(I)V"⟩, 3), (⟨"IsHeIn$Reader", "splitTape", "()V"⟩, 17), (⟨"IsHeIn$Reader", "skipBlanks", "()Z"⟩, 17), (⟨"IsHeIn$Reader", "splitWord", "()V"⟩, 17), (⟨"IsHeIn$Reader", "wordNumber", "(I)I"⟩, 17), (⟨"IsHeIn$Reader", "isWord", "(III)Z"⟩, 17), (⟨"IsHeIn$Reader", "addToken", "(III)V"⟩, 17), (⟨"IsHeIn$Reader", "splitNumber", "()V"⟩, 17), (⟨"IsHeIn$Reader", "stepOn", "()V"⟩, 17)]
theorem lw_r1 : ∀ q ∈ lw_privs_1, lw_okq q := List.forall_mem_cons.mpr ⟨lw_p0, List.forall_mem_cons.mpr ⟨lw_p1, List.forall_mem_cons.mpr ⟨lw_p2, List.forall_mem_cons.mpr ⟨lw_p3, List.forall_mem_cons.mpr ⟨lw_p4, List.forall_mem_cons.mpr ⟨lw_p5, List.forall_mem_cons.mpr ⟨lw_p6, List.forall_mem_cons.mpr ⟨lw_p7, List.forall_mem_cons.mpr ⟨lw_p8, List.forall_mem_cons.mpr ⟨lw_p9, List.forall_mem_cons.mpr ⟨lw_p10, List.forall_mem_cons.mpr ⟨lw_p11, List.forall_mem_cons.mpr ⟨lw_p12, List.forall_mem_cons.mpr ⟨lw_p13, List.forall_mem_cons.mpr ⟨lw_p14, List.forall_mem_cons.mpr ⟨lw_p15, fun _ h => absurd h List.not_mem_nil⟩⟩⟩⟩⟩⟩⟩⟩⟩⟩⟩⟩⟩⟩⟩⟩
theorem lw_p16 : lw_okq (⟨"IsHeIn$Reader", "readLaw", "()Z"⟩, 17) := ⟨⟨by decide +kernel, by decide +kernel⟩, List.mem_of_getElem? (i := 177) (by decide +kernel), List.mem_of_getElem? (i := 704) (by decide +kernel), List.mem_of_getElem? (i := 705) (by decide +kernel)⟩
theorem lw_p17 : lw_okq (⟨"IsHeIn$Reader", "refuse", "(I)Z"⟩, 17) := ⟨⟨by decide +kernel, by decide +kernel⟩, List.mem_of_getElem? (i := 177) (by decide +kernel), List.mem_of_getElem? (i := 709) (by decide +kernel), List.mem_of_getElem? (i := 710) (by decide +kernel)⟩
theorem lw_p18 : lw_okq (⟨"IsHeIn$Reader", "readSum", "()Z"⟩, 17) := ⟨⟨by decide +kernel, by decide +kernel⟩, List.mem_of_getElem? (i := 177) (by decide +kernel), List.mem_of_getElem? (i := 713) (by decide +kernel), List.mem_of_getElem? (i := 714) (by decide +kernel)⟩
theorem lw_p19 : lw_okq (⟨"IsHeIn$Reader", "readUnit", "()Z"⟩, 17) := ⟨⟨by decide +kernel, by decide +kernel⟩, List.mem_of_getElem? (i := 177) (by decide +kernel), List.mem_of_getElem? (i := 717) (by decide +kernel), List.mem_of_getElem? (i := 718) (by decide +kernel)⟩
theorem lw_p20 : lw_okq (⟨"IsHeIn$Reader", "emitIfAny", "(I)V"⟩, 17) := ⟨⟨by decide +kernel, by decide +kernel⟩, List.mem_of_getElem? (i := 177) (by decide +kernel), List.mem_of_getElem? (i := 729) (by decide +kernel), List.mem_of_getElem? (i := 730) (by decide +kernel)⟩
theorem lw_p21 : lw_okq (⟨"IsHeIn$Reader", "readPart", "()Z"⟩, 17) := ⟨⟨by decide +kernel, by decide +kernel⟩, List.mem_of_getElem? (i := 177) (by decide +kernel), List.mem_of_getElem? (i := 733) (by decide +kernel), List.mem_of_getElem? (i := 734) (by decide +kernel)⟩
theorem lw_p22 : lw_okq (⟨"IsHeIn$Reader", "readCondition", "()Z"⟩, 17) := ⟨⟨by decide +kernel, by decide +kernel⟩, List.mem_of_getElem? (i := 177) (by decide +kernel), List.mem_of_getElem? (i := 738) (by decide +kernel), List.mem_of_getElem? (i := 739) (by decide +kernel)⟩
theorem lw_p23 : lw_okq (⟨"IsHeIn$Reader", "readOpenings", "()Z"⟩, 17) := ⟨⟨by decide +kernel, by decide +kernel⟩, List.mem_of_getElem? (i := 177) (by decide +kernel), List.mem_of_getElem? (i := 742) (by decide +kernel), List.mem_of_getElem? (i := 743) (by decide +kernel)⟩
theorem lw_p24 : lw_okq (⟨"IsHeIn$Reader", "hold", "(I)V"⟩, 17) := ⟨⟨by decide +kernel, by decide +kernel⟩, List.mem_of_getElem? (i := 177) (by decide +kernel), List.mem_of_getElem? (i := 746) (by decide +kernel), List.mem_of_getElem? (i := 747) (by decide +kernel)⟩
theorem lw_p25 : lw_okq (⟨"IsHeIn$Reader", "stepOfComparison", "()I"⟩, 17) := ⟨⟨by decide +kernel, by decide +kernel⟩, List.mem_of_getElem? (i := 177) (by decide +kernel), List.mem_of_getElem? (i := 750) (by decide +kernel), List.mem_of_getElem? (i := 751) (by decide +kernel)⟩
theorem lw_p26 : lw_okq (⟨"IsHeIn$Reader", "readClosings", "()V"⟩, 17) := ⟨⟨by decide +kernel, by decide +kernel⟩, List.mem_of_getElem? (i := 177) (by decide +kernel), List.mem_of_getElem? (i := 754) (by decide +kernel), List.mem_of_getElem? (i := 755) (by decide +kernel)⟩
theorem lw_p27 : lw_okq (⟨"IsHeIn$Reader", "closeNots", "()V"⟩, 17) := ⟨⟨by decide +kernel, by decide +kernel⟩, List.mem_of_getElem? (i := 177) (by decide +kernel), List.mem_of_getElem? (i := 758) (by decide +kernel), List.mem_of_getElem? (i := 759) (by decide +kernel)⟩
theorem lw_p28 : lw_okq (⟨"IsHeIn$Reader", "lastWaiting", "()I"⟩, 17) := ⟨⟨by decide +kernel, by decide +kernel⟩, List.mem_of_getElem? (i := 177) (by decide +kernel), List.mem_of_getElem? (i := 762) (by decide +kernel), List.mem_of_getElem? (i := 763) (by decide +kernel)⟩
theorem lw_p29 : lw_okq (⟨"IsHeIn$Reader", "joinWhatWaits", "(Z)V"⟩, 17) := ⟨⟨by decide +kernel, by decide +kernel⟩, List.mem_of_getElem? (i := 177) (by decide +kernel), List.mem_of_getElem? (i := 767) (by decide +kernel), List.mem_of_getElem? (i := 768) (by decide +kernel)⟩
theorem lw_p30 : lw_okq (⟨"IsHeIn$Reader", "pass", "(I)Z"⟩, 17) := ⟨⟨by decide +kernel, by decide +kernel⟩, List.mem_of_getElem? (i := 177) (by decide +kernel), List.mem_of_getElem? (i := 771) (by decide +kernel), List.mem_of_getElem? (i := 772) (by decide +kernel)⟩
theorem lw_p31 : lw_okq (⟨"IsHeIn$Reader", "readSign", "()Z"⟩, 17) := ⟨⟨by decide +kernel, by decide +kernel⟩, List.mem_of_getElem? (i := 177) (by decide +kernel), List.mem_of_getElem? (i := 775) (by decide +kernel), List.mem_of_getElem? (i := 776) (by decide +kernel)⟩
def lw_privs_2 : List (MethodName × Nat) := [(⟨"IsHeIn$Reader", "readLaw", "()Z"⟩, 17), (⟨"IsHeIn$Reader", "refuse", "(I)Z"⟩, 17), (⟨"IsHeIn$Reader", "readSum", "()Z"⟩, 17), (⟨"IsHeIn$Reader", "readUnit", "()Z"⟩, 17), (⟨"IsHeIn$Reader", "emitIfAny", "(I)V"⟩, 17), (⟨"IsHeIn$Reader", "readPart", "()Z"⟩, 17), (⟨"IsHeIn$Reader", "readCondition", "()Z"⟩, 17), (⟨"IsHeIn$Reader", "readOpenings", "()Z"⟩, 17), (⟨"IsHeIn$Reader", "hold", "(I)V"⟩, 17), (⟨"IsHeIn$Reader", "stepOfComparison", "()I"⟩, 17), (⟨"IsHeIn$Reader", "readClosings", "()V"⟩, 17), (⟨"IsHeIn$Reader", "closeNots", "()V"⟩, 17), (⟨"IsHeIn$Reader", "lastWaiting", "()I"⟩, 17), (⟨"IsHeIn$Reader", "joinWhatWaits", "(Z)V"⟩, 17), (⟨"IsHeIn$Reader", "pass", "(I)Z"⟩, 17), (⟨"IsHeIn$Reader", "readSign", "()Z"⟩, 17)]
theorem lw_r2 : ∀ q ∈ lw_privs_2, lw_okq q := List.forall_mem_cons.mpr ⟨lw_p16, List.forall_mem_cons.mpr ⟨lw_p17, List.forall_mem_cons.mpr ⟨lw_p18, List.forall_mem_cons.mpr ⟨lw_p19, List.forall_mem_cons.mpr ⟨lw_p20, List.forall_mem_cons.mpr ⟨lw_p21, List.forall_mem_cons.mpr ⟨lw_p22, List.forall_mem_cons.mpr ⟨lw_p23, List.forall_mem_cons.mpr ⟨lw_p24, List.forall_mem_cons.mpr ⟨lw_p25, List.forall_mem_cons.mpr ⟨lw_p26, List.forall_mem_cons.mpr ⟨lw_p27, List.forall_mem_cons.mpr ⟨lw_p28, List.forall_mem_cons.mpr ⟨lw_p29, List.forall_mem_cons.mpr ⟨lw_p30, List.forall_mem_cons.mpr ⟨lw_p31, fun _ h => absurd h List.not_mem_nil⟩⟩⟩⟩⟩⟩⟩⟩⟩⟩⟩⟩⟩⟩⟩⟩
theorem lw_p32 : lw_okq (⟨"IsHeIn$Reader", "readHead", "(ILIsHeIn$Table;)Z"⟩, 17) := ⟨⟨by decide +kernel, by decide +kernel⟩, List.mem_of_getElem? (i := 177) (by decide +kernel), List.mem_of_getElem? (i := 779) (by decide +kernel), List.mem_of_getElem? (i := 780) (by decide +kernel)⟩
theorem lw_p33 : lw_okq (⟨"IsHeIn$Reader", "readNamed", "(IIILIsHeIn$Table;I)Z"⟩, 17) := ⟨⟨by decide +kernel, by decide +kernel⟩, List.mem_of_getElem? (i := 177) (by decide +kernel), List.mem_of_getElem? (i := 783) (by decide +kernel), List.mem_of_getElem? (i := 784) (by decide +kernel)⟩
theorem lw_p34 : lw_okq (⟨"IsHeIn$Reader", "readShift", "()Z"⟩, 17) := ⟨⟨by decide +kernel, by decide +kernel⟩, List.mem_of_getElem? (i := 177) (by decide +kernel), List.mem_of_getElem? (i := 787) (by decide +kernel), List.mem_of_getElem? (i := 788) (by decide +kernel)⟩
theorem lw_p35 : lw_okq (⟨"IsHeIn$Belief", "glanceAt", "(I)V"⟩, 5) := ⟨⟨by decide +kernel, by decide +kernel⟩, List.mem_of_getElem? (i := 276) (by decide +kernel), List.mem_of_getElem? (i := 841) (by decide +kernel), List.mem_of_getElem? (i := 842) (by decide +kernel)⟩
theorem lw_p36 : lw_okq (⟨"IsHeIn$Belief", "sureByGlance", "(I)I"⟩, 5) := ⟨⟨by decide +kernel, by decide +kernel⟩, List.mem_of_getElem? (i := 276) (by decide +kernel), List.mem_of_getElem? (i := 846) (by decide +kernel), List.mem_of_getElem? (i := 847) (by decide +kernel)⟩
theorem lw_p37 : lw_okq (⟨"IsHeIn$Belief", "sureAfter", "(IIZ)I"⟩, 5) := ⟨⟨by decide +kernel, by decide +kernel⟩, List.mem_of_getElem? (i := 276) (by decide +kernel), List.mem_of_getElem? (i := 853) (by decide +kernel), List.mem_of_getElem? (i := 854) (by decide +kernel)⟩
theorem lw_p38 : lw_okq (⟨"IsHeIn$Records", "clerkOfLastGoing", "(I)I"⟩, 1) := ⟨⟨by decide +kernel, by decide +kernel⟩, List.mem_of_getElem? (i := 319) (by decide +kernel), List.mem_of_getElem? (i := 902) (by decide +kernel), List.mem_of_getElem? (i := 903) (by decide +kernel)⟩
theorem lw_p39 : lw_okq (⟨"IsHeIn$Records", "hangsWrong", "(I)Z"⟩, 1) := ⟨⟨by decide +kernel, by decide +kernel⟩, List.mem_of_getElem? (i := 319) (by decide +kernel), List.mem_of_getElem? (i := 914) (by decide +kernel), List.mem_of_getElem? (i := 915) (by decide +kernel)⟩
theorem lw_p40 : lw_okq (⟨"IsHeIn", "lookAtTold", "(I)I"⟩, 11) := ⟨⟨by decide +kernel, by decide +kernel⟩, List.mem_of_getElem? (i := 21) (by decide +kernel), List.mem_of_getElem? (i := 959) (by decide +kernel), List.mem_of_getElem? (i := 960) (by decide +kernel)⟩
theorem lw_p41 : lw_okq (⟨"IsHeIn$Belief", "bestSign", "(I)I"⟩, 5) := ⟨⟨by decide +kernel, by decide +kernel⟩, List.mem_of_getElem? (i := 276) (by decide +kernel), List.mem_of_getElem? (i := 971) (by decide +kernel), List.mem_of_getElem? (i := 972) (by decide +kernel)⟩
theorem lw_p42 : lw_okq (⟨"IsHeIn$Belief", "surenessBy", "(II)J"⟩, 5) := ⟨⟨by decide +kernel, by decide +kernel⟩, List.mem_of_getElem? (i := 276) (by decide +kernel), List.mem_of_getElem? (i := 976) (by decide +kernel), List.mem_of_getElem? (i := 977) (by decide +kernel)⟩
theorem lw_p43 : lw_okq (⟨"IsHeIn$Belief", "chanceToSee", "(II)I"⟩, 5) := ⟨⟨by decide +kernel, by decide +kernel⟩, List.mem_of_getElem? (i := 276) (by decide +kernel), List.mem_of_getElem? (i := 980) (by decide +kernel), List.mem_of_getElem? (i := 981) (by decide +kernel)⟩
theorem lw_p44 : lw_okq (⟨"IsHeIn$Belief", "weighAll", "()V"⟩, 5) := ⟨⟨by decide +kernel, by decide +kernel⟩, List.mem_of_getElem? (i := 276) (by decide +kernel), List.mem_of_getElem? (i := 1025) (by decide +kernel), List.mem_of_getElem? (i := 1026) (by decide +kernel)⟩
theorem lw_p45 : lw_okq (⟨"IsHeIn$Belief", "countChances", "(I)V"⟩, 5) := ⟨⟨by decide +kernel, by decide +kernel⟩, List.mem_of_getElem? (i := 276) (by decide +kernel), List.mem_of_getElem? (i := 1033) (by decide +kernel), List.mem_of_getElem? (i := 1034) (by decide +kernel)⟩
theorem lw_p46 : lw_okq (⟨"IsHeIn$Belief", "countChance", "(I)V"⟩, 5) := ⟨⟨by decide +kernel, by decide +kernel⟩, List.mem_of_getElem? (i := 276) (by decide +kernel), List.mem_of_getElem? (i := 1037) (by decide +kernel), List.mem_of_getElem? (i := 1038) (by decide +kernel)⟩
theorem lw_p47 : lw_okq (⟨"IsHeIn$Belief", "chanceWithin", "(II)I"⟩, 5) := ⟨⟨by decide +kernel, by decide +kernel⟩, List.mem_of_getElem? (i := 276) (by decide +kernel), List.mem_of_getElem? (i := 1049) (by decide +kernel), List.mem_of_getElem? (i := 1050) (by decide +kernel)⟩
def lw_privs_3 : List (MethodName × Nat) := [(⟨"IsHeIn$Reader", "readHead", "(ILIsHeIn$Table;)Z"⟩, 17), (⟨"IsHeIn$Reader", "readNamed", "(IIILIsHeIn$Table;I)Z"⟩, 17), (⟨"IsHeIn$Reader", "readShift", "()Z"⟩, 17), (⟨"IsHeIn$Belief", "glanceAt", "(I)V"⟩, 5), (⟨"IsHeIn$Belief", "sureByGlance", "(I)I"⟩, 5), (⟨"IsHeIn$Belief", "sureAfter", "(IIZ)I"⟩, 5), (⟨"IsHeIn$Records", "clerkOfLastGoing", "(I)I"⟩, 1), (⟨"IsHeIn$Records", "hangsWrong", "(I)Z"⟩, 1), (⟨"IsHeIn", "lookAtTold", "(I)I"⟩, 11), (⟨"IsHeIn$Belief", "bestSign", "(I)I"⟩, 5), (⟨"IsHeIn$Belief", "surenessBy", "(II)J"⟩, 5), (⟨"IsHeIn$Belief", "chanceToSee", "(II)I"⟩, 5), (⟨"IsHeIn$Belief", "weighAll", "()V"⟩, 5), (⟨"IsHeIn$Belief", "countChances", "(I)V"⟩, 5), (⟨"IsHeIn$Belief", "countChance", "(I)V"⟩, 5), (⟨"IsHeIn$Belief", "chanceWithin", "(II)I"⟩, 5)]
theorem lw_r3 : ∀ q ∈ lw_privs_3, lw_okq q := List.forall_mem_cons.mpr ⟨lw_p32, List.forall_mem_cons.mpr ⟨lw_p33, List.forall_mem_cons.mpr ⟨lw_p34, List.forall_mem_cons.mpr ⟨lw_p35, List.forall_mem_cons.mpr ⟨lw_p36, List.forall_mem_cons.mpr ⟨lw_p37, List.forall_mem_cons.mpr ⟨lw_p38, List.forall_mem_cons.mpr ⟨lw_p39, List.forall_mem_cons.mpr ⟨lw_p40, List.forall_mem_cons.mpr ⟨lw_p41, List.forall_mem_cons.mpr ⟨lw_p42, List.forall_mem_cons.mpr ⟨lw_p43, List.forall_mem_cons.mpr ⟨lw_p44, List.forall_mem_cons.mpr ⟨lw_p45, List.forall_mem_cons.mpr ⟨lw_p46, List.forall_mem_cons.mpr ⟨lw_p47, fun _ h => absurd h List.not_mem_nil⟩⟩⟩⟩⟩⟩⟩⟩⟩⟩⟩⟩⟩⟩⟩⟩
theorem lw_p48 : lw_okq (⟨"IsHeIn$Foresight", "countGoings", "(I)V"⟩, 4) := ⟨⟨by decide +kernel, by decide +kernel⟩, List.mem_of_getElem? (i := 298) (by decide +kernel), List.mem_of_getElem? (i := 1154) (by decide +kernel), List.mem_of_getElem? (i := 1155) (by decide +kernel)⟩
theorem lw_p49 : lw_okq (⟨"IsHeIn$Foresight", "restFrom", "(IIII)I"⟩, 4) := ⟨⟨by decide +kernel, by decide +kernel⟩, List.mem_of_getElem? (i := 298) (by decide +kernel), List.mem_of_getElem? (i := 1159) (by decide +kernel), List.mem_of_getElem? (i := 1160) (by decide +kernel)⟩
theorem lw_p50 : lw_okq (⟨"IsHeIn$Rounds", "roomsBefore", "(I)I"⟩, 8) := ⟨⟨by decide +kernel, by decide +kernel⟩, List.mem_of_getElem? (i := 329) (by decide +kernel), List.mem_of_getElem? (i := 1201) (by decide +kernel), List.mem_of_getElem? (i := 1202) (by decide +kernel)⟩
theorem lw_p51 : lw_okq (⟨"IsHeIn$Rounds", "canBeDone", "(I)Z"⟩, 8) := ⟨⟨by decide +kernel, by decide +kernel⟩, List.mem_of_getElem? (i := 329) (by decide +kernel), List.mem_of_getElem? (i := 1214) (by decide +kernel), List.mem_of_getElem? (i := 1215) (by decide +kernel)⟩
theorem lw_p52 : lw_okq (⟨"IsHeIn$Rounds", "minutesDueBy", "(II)I"⟩, 8) := ⟨⟨by decide +kernel, by decide +kernel⟩, List.mem_of_getElem? (i := 329) (by decide +kernel), List.mem_of_getElem? (i := 1218) (by decide +kernel), List.mem_of_getElem? (i := 1219) (by decide +kernel)⟩
theorem lw_p53 : lw_okq (⟨"IsHeIn$Rounds", "isBetter", "(II)Z"⟩, 8) := ⟨⟨by decide +kernel, by decide +kernel⟩, List.mem_of_getElem? (i := 329) (by decide +kernel), List.mem_of_getElem? (i := 1222) (by decide +kernel), List.mem_of_getElem? (i := 1223) (by decide +kernel)⟩
theorem lw_p54 : lw_okq (⟨"IsHeIn$Rounds", "searchOn", "(IIIIJ)V"⟩, 8) := ⟨⟨by decide +kernel, by decide +kernel⟩, List.mem_of_getElem? (i := 329) (by decide +kernel), List.mem_of_getElem? (i := 1241) (by decide +kernel), List.mem_of_getElem? (i := 1242) (by decide +kernel)⟩
theorem lw_p55 : lw_okq (⟨"IsHeInModel", "forgets", "()V"⟩, 35) := ⟨⟨by decide +kernel, by decide +kernel⟩, List.mem_of_getElem? (i := 1249) (by decide +kernel), List.mem_of_getElem? (i := 1366) (by decide +kernel), List.mem_of_getElem? (i := 1367) (by decide +kernel)⟩
theorem lw_p56 : lw_okq (⟨"IsHeInModel", "isGuest", "(I)Z"⟩, 35) := ⟨⟨by decide +kernel, by decide +kernel⟩, List.mem_of_getElem? (i := 1249) (by decide +kernel), List.mem_of_getElem? (i := 1381) (by decide +kernel), List.mem_of_getElem? (i := 1382) (by decide +kernel)⟩
theorem lw_p57 : lw_okq (⟨"IsHeInModel", "next0", "()V"⟩, 35) := ⟨⟨by decide +kernel, by decide +kernel⟩, List.mem_of_getElem? (i := 1249) (by decide +kernel), List.mem_of_getElem? (i := 1397) (by decide +kernel), List.mem_of_getElem? (i := 1398) (by decide +kernel)⟩
theorem lw_p58 : lw_okq (⟨"IsHeInModel", "see", "(I)I"⟩, 35) := ⟨⟨by decide +kernel, by decide +kernel⟩, List.mem_of_getElem? (i := 1249) (by decide +kernel), List.mem_of_getElem? (i := 1401) (by decide +kernel), List.mem_of_getElem? (i := 1402) (by decide +kernel)⟩
theorem lw_p59 : lw_okq (⟨"IsHeInModel", "word", "()I"⟩, 35) := ⟨⟨by decide +kernel, by decide +kernel⟩, List.mem_of_getElem? (i := 1249) (by decide +kernel), List.mem_of_getElem? (i := 1408) (by decide +kernel), List.mem_of_getElem? (i := 1409) (by decide +kernel)⟩
theorem lw_p60 : lw_okq (⟨"IsHeInModel", "lawWord", "()I"⟩, 35) := ⟨⟨by decide +kernel, by decide +kernel⟩, List.mem_of_getElem? (i := 1249) (by decide +kernel), List.mem_of_getElem? (i := 1412) (by decide +kernel), List.mem_of_getElem? (i := 1413) (by decide +kernel)⟩
theorem lw_p61 : lw_okq (⟨"IsHeInModel", "is", "(Ljava/lang/String;)Z"⟩, 35) := ⟨⟨by decide +kernel, by decide +kernel⟩, List.mem_of_getElem? (i := 1249) (by decide +kernel), List.mem_of_getElem? (i := 1417) (by decide +kernel), List.mem_of_getElem? (i := 1418) (by decide +kernel)⟩
theorem lw_p62 : lw_okq (⟨"IsHeInModel", "asked", "()I"⟩, 35) := ⟨⟨by decide +kernel, by decide +kernel⟩, List.mem_of_getElem? (i := 1249) (by decide +kernel), List.mem_of_getElem? (i := 1426) (by decide +kernel), List.mem_of_getElem? (i := 1427) (by decide +kernel)⟩
theorem lw_p63 : lw_okq (⟨"IsHeInModel", "wordOfLaw", "()I"⟩, 35) := ⟨⟨by decide +kernel, by decide +kernel⟩, List.mem_of_getElem? (i := 1249) (by decide +kernel), List.mem_of_getElem? (i := 1439) (by decide +kernel), List.mem_of_getElem? (i := 1440) (by decide +kernel)⟩
def lw_privs_4 : List (MethodName × Nat) := [(⟨"IsHeIn$Foresight", "countGoings", "(I)V"⟩, 4), (⟨"IsHeIn$Foresight", "restFrom", "(IIII)I"⟩, 4), (⟨"IsHeIn$Rounds", "roomsBefore", "(I)I"⟩, 8), (⟨"IsHeIn$Rounds", "canBeDone", "(I)Z"⟩, 8), (⟨"IsHeIn$Rounds", "minutesDueBy", "(II)I"⟩, 8), (⟨"IsHeIn$Rounds", "isBetter", "(II)Z"⟩, 8), (⟨"IsHeIn$Rounds", "searchOn", "(IIIIJ)V"⟩, 8), (⟨"IsHeInModel", "forgets", "()V"⟩, 35), (⟨"IsHeInModel", "isGuest", "(I)Z"⟩, 35), (⟨"IsHeInModel", "next0", "()V"⟩, 35), (⟨"IsHeInModel", "see", "(I)I"⟩, 35), (⟨"IsHeInModel", "word", "()I"⟩, 35), (⟨"IsHeInModel", "lawWord", "()I"⟩, 35), (⟨"IsHeInModel", "is", "(Ljava/lang/String;)Z"⟩, 35), (⟨"IsHeInModel", "asked", "()I"⟩, 35), (⟨"IsHeInModel", "wordOfLaw", "()I"⟩, 35)]
theorem lw_r4 : ∀ q ∈ lw_privs_4, lw_okq q := List.forall_mem_cons.mpr ⟨lw_p48, List.forall_mem_cons.mpr ⟨lw_p49, List.forall_mem_cons.mpr ⟨lw_p50, List.forall_mem_cons.mpr ⟨lw_p51, List.forall_mem_cons.mpr ⟨lw_p52, List.forall_mem_cons.mpr ⟨lw_p53, List.forall_mem_cons.mpr ⟨lw_p54, List.forall_mem_cons.mpr ⟨lw_p55, List.forall_mem_cons.mpr ⟨lw_p56, List.forall_mem_cons.mpr ⟨lw_p57, List.forall_mem_cons.mpr ⟨lw_p58, List.forall_mem_cons.mpr ⟨lw_p59, List.forall_mem_cons.mpr ⟨lw_p60, List.forall_mem_cons.mpr ⟨lw_p61, List.forall_mem_cons.mpr ⟨lw_p62, List.forall_mem_cons.mpr ⟨lw_p63, fun _ h => absurd h List.not_mem_nil⟩⟩⟩⟩⟩⟩⟩⟩⟩⟩⟩⟩⟩⟩⟩⟩
theorem lw_p64 : lw_okq (⟨"IsHeInModel", "signWord", "()I"⟩, 35) := ⟨⟨by decide +kernel, by decide +kernel⟩, List.mem_of_getElem? (i := 1249) (by decide +kernel), List.mem_of_getElem? (i := 1449) (by decide +kernel), List.mem_of_getElem? (i := 1450) (by decide +kernel)⟩
theorem lw_p65 : lw_okq (⟨"IsHeInModel", "shiftWord", "()I"⟩, 35) := ⟨⟨by decide +kernel, by decide +kernel⟩, List.mem_of_getElem? (i := 1249) (by decide +kernel), List.mem_of_getElem? (i := 1456) (by decide +kernel), List.mem_of_getElem? (i := 1457) (by decide +kernel)⟩
theorem lw_p66 : lw_okq (⟨"IsHeInModel", "readsLaw", "()Z"⟩, 35) := ⟨⟨by decide +kernel, by decide +kernel⟩, List.mem_of_getElem? (i := 1249) (by decide +kernel), List.mem_of_getElem? (i := 1467) (by decide +kernel), List.mem_of_getElem? (i := 1468) (by decide +kernel)⟩
theorem lw_p67 : lw_okq (⟨"IsHeInModel", "aLine", "()Z"⟩, 35) := ⟨⟨by decide +kernel, by decide +kernel⟩, List.mem_of_getElem? (i := 1249) (by decide +kernel), List.mem_of_getElem? (i := 1471) (by decide +kernel), List.mem_of_getElem? (i := 1472) (by decide +kernel)⟩
theorem lw_p68 : lw_okq (⟨"IsHeInModel", "bad", "(I)Z"⟩, 35) := ⟨⟨by decide +kernel, by decide +kernel⟩, List.mem_of_getElem? (i := 1249) (by decide +kernel), List.mem_of_getElem? (i := 1475) (by decide +kernel), List.mem_of_getElem? (i := 1476) (by decide +kernel)⟩
theorem lw_p69 : lw_okq (⟨"IsHeInModel", "sumUp", "()Z"⟩, 35) := ⟨⟨by decide +kernel, by decide +kernel⟩, List.mem_of_getElem? (i := 1249) (by decide +kernel), List.mem_of_getElem? (i := 1479) (by decide +kernel), List.mem_of_getElem? (i := 1480) (by decide +kernel)⟩
theorem lw_p70 : lw_okq (⟨"IsHeInModel", "product", "()Z"⟩, 35) := ⟨⟨by decide +kernel, by decide +kernel⟩, List.mem_of_getElem? (i := 1249) (by decide +kernel), List.mem_of_getElem? (i := 1483) (by decide +kernel), List.mem_of_getElem? (i := 1484) (by decide +kernel)⟩
theorem lw_p71 : lw_okq (⟨"IsHeInModel", "unit", "()Z"⟩, 35) := ⟨⟨by decide +kernel, by decide +kernel⟩, List.mem_of_getElem? (i := 1249) (by decide +kernel), List.mem_of_getElem? (i := 1487) (by decide +kernel), List.mem_of_getElem? (i := 1488) (by decide +kernel)⟩
theorem lw_p72 : lw_okq (⟨"IsHeInModel", "lay", "(II)V"⟩, 35) := ⟨⟨by decide +kernel, by decide +kernel⟩, List.mem_of_getElem? (i := 1249) (by decide +kernel), List.mem_of_getElem? (i := 1491) (by decide +kernel), List.mem_of_getElem? (i := 1492) (by decide +kernel)⟩
theorem lw_p73 : lw_okq (⟨"IsHeInModel", "any", "()Z"⟩, 35) := ⟨⟨by decide +kernel, by decide +kernel⟩, List.mem_of_getElem? (i := 1249) (by decide +kernel), List.mem_of_getElem? (i := 1495) (by decide +kernel), List.mem_of_getElem? (i := 1496) (by decide +kernel)⟩
theorem lw_p74 : lw_okq (⟨"IsHeInModel", "every", "()Z"⟩, 35) := ⟨⟨by decide +kernel, by decide +kernel⟩, List.mem_of_getElem? (i := 1249) (by decide +kernel), List.mem_of_getElem? (i := 1499) (by decide +kernel), List.mem_of_getElem? (i := 1500) (by decide +kernel)⟩
theorem lw_p75 : lw_okq (⟨"IsHeInModel", "oneTest", "()Z"⟩, 35) := ⟨⟨by decide +kernel, by decide +kernel⟩, List.mem_of_getElem? (i := 1249) (by decide +kernel), List.mem_of_getElem? (i := 1503) (by decide +kernel), List.mem_of_getElem? (i := 1504) (by decide +kernel)⟩
theorem lw_p76 : lw_okq (⟨"IsHeInModel", "opens", "()Z"⟩, 35) := ⟨⟨by decide +kernel, by decide +kernel⟩, List.mem_of_getElem? (i := 1249) (by decide +kernel), List.mem_of_getElem? (i := 1507) (by decide +kernel), List.mem_of_getElem? (i := 1508) (by decide +kernel)⟩
theorem lw_p77 : lw_okq (⟨"IsHeInModel", "need", "(I)Z"⟩, 35) := ⟨⟨by decide +kernel, by decide +kernel⟩, List.mem_of_getElem? (i := 1249) (by decide +kernel), List.mem_of_getElem? (i := 1511) (by decide +kernel), List.mem_of_getElem? (i := 1512) (by decide +kernel)⟩
theorem lw_p78 : lw_okq (⟨"IsHeInModel", "readsRows", "()Z"⟩, 35) := ⟨⟨by decide +kernel, by decide +kernel⟩, List.mem_of_getElem? (i := 1249) (by decide +kernel), List.mem_of_getElem? (i := 1515) (by decide +kernel), List.mem_of_getElem? (i := 1516) (by decide +kernel)⟩
theorem lw_p79 : lw_okq (⟨"IsHeInModel", "aSign", "()Z"⟩, 35) := ⟨⟨by decide +kernel, by decide +kernel⟩, List.mem_of_getElem? (i := 1249) (by decide +kernel), List.mem_of_getElem? (i := 1519) (by decide +kernel), List.mem_of_getElem? (i := 1520) (by decide +kernel)⟩
def lw_privs_5 : List (MethodName × Nat) := [(⟨"IsHeInModel", "signWord", "()I"⟩, 35), (⟨"IsHeInModel", "shiftWord", "()I"⟩, 35), (⟨"IsHeInModel", "readsLaw", "()Z"⟩, 35), (⟨"IsHeInModel", "aLine", "()Z"⟩, 35), (⟨"IsHeInModel", "bad", "(I)Z"⟩, 35), (⟨"IsHeInModel", "sumUp", "()Z"⟩, 35), (⟨"IsHeInModel", "product", "()Z"⟩, 35), (⟨"IsHeInModel", "unit", "()Z"⟩, 35), (⟨"IsHeInModel", "lay", "(II)V"⟩, 35), (⟨"IsHeInModel", "any", "()Z"⟩, 35), (⟨"IsHeInModel", "every", "()Z"⟩, 35), (⟨"IsHeInModel", "oneTest", "()Z"⟩, 35), (⟨"IsHeInModel", "opens", "()Z"⟩, 35), (⟨"IsHeInModel", "need", "(I)Z"⟩, 35), (⟨"IsHeInModel", "readsRows", "()Z"⟩, 35), (⟨"IsHeInModel", "aSign", "()Z"⟩, 35)]
theorem lw_r5 : ∀ q ∈ lw_privs_5, lw_okq q := List.forall_mem_cons.mpr ⟨lw_p64, List.forall_mem_cons.mpr ⟨lw_p65, List.forall_mem_cons.mpr ⟨lw_p66, List.forall_mem_cons.mpr ⟨lw_p67, List.forall_mem_cons.mpr ⟨lw_p68, List.forall_mem_cons.mpr ⟨lw_p69, List.forall_mem_cons.mpr ⟨lw_p70, List.forall_mem_cons.mpr ⟨lw_p71, List.forall_mem_cons.mpr ⟨lw_p72, List.forall_mem_cons.mpr ⟨lw_p73, List.forall_mem_cons.mpr ⟨lw_p74, List.forall_mem_cons.mpr ⟨lw_p75, List.forall_mem_cons.mpr ⟨lw_p76, List.forall_mem_cons.mpr ⟨lw_p77, List.forall_mem_cons.mpr ⟨lw_p78, List.forall_mem_cons.mpr ⟨lw_p79, fun _ h => absurd h List.not_mem_nil⟩⟩⟩⟩⟩⟩⟩⟩⟩⟩⟩⟩⟩⟩⟩⟩
theorem lw_p80 : lw_okq (⟨"IsHeInModel", "told", "(IIII)Z"⟩, 35) := ⟨⟨by decide +kernel, by decide +kernel⟩, List.mem_of_getElem? (i := 1249) (by decide +kernel), List.mem_of_getElem? (i := 1523) (by decide +kernel), List.mem_of_getElem? (i := 1524) (by decide +kernel)⟩
theorem lw_p81 : lw_okq (⟨"IsHeInModel", "number", "(II)Z"⟩, 35) := ⟨⟨by decide +kernel, by decide +kernel⟩, List.mem_of_getElem? (i := 1249) (by decide +kernel), List.mem_of_getElem? (i := 1527) (by decide +kernel), List.mem_of_getElem? (i := 1528) (by decide +kernel)⟩
theorem lw_p82 : lw_okq (⟨"IsHeInModel", "aShift", "()Z"⟩, 35) := ⟨⟨by decide +kernel, by decide +kernel⟩, List.mem_of_getElem? (i := 1249) (by decide +kernel), List.mem_of_getElem? (i := 1531) (by decide +kernel), List.mem_of_getElem? (i := 1532) (by decide +kernel)⟩
theorem lw_p83 : lw_okq (⟨"IsHeInModel", "putsLaw", "()I"⟩, 35) := ⟨⟨by decide +kernel, by decide +kernel⟩, List.mem_of_getElem? (i := 1249) (by decide +kernel), List.mem_of_getElem? (i := 1535) (by decide +kernel), List.mem_of_getElem? (i := 1536) (by decide +kernel)⟩
theorem lw_p84 : lw_okq (⟨"IsHeInModel", "putsSigns", "()I"⟩, 35) := ⟨⟨by decide +kernel, by decide +kernel⟩, List.mem_of_getElem? (i := 1249) (by decide +kernel), List.mem_of_getElem? (i := 1539) (by decide +kernel), List.mem_of_getElem? (i := 1540) (by decide +kernel)⟩
theorem lw_p85 : lw_okq (⟨"IsHeInModel", "putsShifts", "()I"⟩, 35) := ⟨⟨by decide +kernel, by decide +kernel⟩, List.mem_of_getElem? (i := 1249) (by decide +kernel), List.mem_of_getElem? (i := 1543) (by decide +kernel), List.mem_of_getElem? (i := 1544) (by decide +kernel)⟩
theorem lw_p86 : lw_okq (⟨"IsHeInModel", "keeps", "()V"⟩, 35) := ⟨⟨by decide +kernel, by decide +kernel⟩, List.mem_of_getElem? (i := 1249) (by decide +kernel), List.mem_of_getElem? (i := 1559) (by decide +kernel), List.mem_of_getElem? (i := 1560) (by decide +kernel)⟩
theorem lw_p87 : lw_okq (⟨"IsHeInModel", "anHour", "()I"⟩, 35) := ⟨⟨by decide +kernel, by decide +kernel⟩, List.mem_of_getElem? (i := 1249) (by decide +kernel), List.mem_of_getElem? (i := 1563) (by decide +kernel), List.mem_of_getElem? (i := 1564) (by decide +kernel)⟩
theorem lw_p88 : lw_okq (⟨"IsHeInModel", "isMoved", "(I)Z"⟩, 35) := ⟨⟨by decide +kernel, by decide +kernel⟩, List.mem_of_getElem? (i := 1249) (by decide +kernel), List.mem_of_getElem? (i := 1567) (by decide +kernel), List.mem_of_getElem? (i := 1568) (by decide +kernel)⟩
theorem lw_p89 : lw_okq (⟨"IsHeInModel", "saysNow", "(II)I"⟩, 35) := ⟨⟨by decide +kernel, by decide +kernel⟩, List.mem_of_getElem? (i := 1249) (by decide +kernel), List.mem_of_getElem? (i := 1571) (by decide +kernel), List.mem_of_getElem? (i := 1572) (by decide +kernel)⟩
theorem lw_p90 : lw_okq (⟨"IsHeInModel", "saysIn", "(IIIII)I"⟩, 35) := ⟨⟨by decide +kernel, by decide +kernel⟩, List.mem_of_getElem? (i := 1249) (by decide +kernel), List.mem_of_getElem? (i := 1575) (by decide +kernel), List.mem_of_getElem? (i := 1576) (by decide +kernel)⟩
theorem lw_p91 : lw_okq (⟨"IsHeInModel", "isOnBoard", "(I)Z"⟩, 35) := ⟨⟨by decide +kernel, by decide +kernel⟩, List.mem_of_getElem? (i := 1249) (by decide +kernel), List.mem_of_getElem? (i := 1579) (by decide +kernel), List.mem_of_getElem? (i := 1580) (by decide +kernel)⟩
theorem lw_p92 : lw_okq (⟨"IsHeInModel", "isSo", "(I)Z"⟩, 35) := ⟨⟨by decide +kernel, by decide +kernel⟩, List.mem_of_getElem? (i := 1249) (by decide +kernel), List.mem_of_getElem? (i := 1583) (by decide +kernel), List.mem_of_getElem? (i := 1584) (by decide +kernel)⟩
theorem lw_p93 : lw_okq (⟨"IsHeInModel", "comesTo", "(III)I"⟩, 35) := ⟨⟨by decide +kernel, by decide +kernel⟩, List.mem_of_getElem? (i := 1249) (by decide +kernel), List.mem_of_getElem? (i := 1587) (by decide +kernel), List.mem_of_getElem? (i := 1588) (by decide +kernel)⟩
theorem lw_p94 : lw_okq (⟨"IsHeInModel", "without", "(II)I"⟩, 35) := ⟨⟨by decide +kernel, by decide +kernel⟩, List.mem_of_getElem? (i := 1249) (by decide +kernel), List.mem_of_getElem? (i := 1600) (by decide +kernel), List.mem_of_getElem? (i := 1601) (by decide +kernel)⟩
theorem lw_p95 : lw_okq (⟨"IsHeInModel", "draw", "(I)I"⟩, 35) := ⟨⟨by decide +kernel, by decide +kernel⟩, List.mem_of_getElem? (i := 1249) (by decide +kernel), List.mem_of_getElem? (i := 1604) (by decide +kernel), List.mem_of_getElem? (i := 1605) (by decide +kernel)⟩
def lw_privs_6 : List (MethodName × Nat) := [(⟨"IsHeInModel", "told", "(IIII)Z"⟩, 35), (⟨"IsHeInModel", "number", "(II)Z"⟩, 35), (⟨"IsHeInModel", "aShift", "()Z"⟩, 35), (⟨"IsHeInModel", "putsLaw", "()I"⟩, 35), (⟨"IsHeInModel", "putsSigns", "()I"⟩, 35), (⟨"IsHeInModel", "putsShifts", "()I"⟩, 35), (⟨"IsHeInModel", "keeps", "()V"⟩, 35), (⟨"IsHeInModel", "anHour", "()I"⟩, 35), (⟨"IsHeInModel", "isMoved", "(I)Z"⟩, 35), (⟨"IsHeInModel", "saysNow", "(II)I"⟩, 35), (⟨"IsHeInModel", "saysIn", "(IIIII)I"⟩, 35), (⟨"IsHeInModel", "isOnBoard", "(I)Z"⟩, 35), (⟨"IsHeInModel", "isSo", "(I)Z"⟩, 35), (⟨"IsHeInModel", "comesTo", "(III)I"⟩, 35), (⟨"IsHeInModel", "without", "(II)I"⟩, 35), (⟨"IsHeInModel", "draw", "(I)I"⟩, 35)]
theorem lw_r6 : ∀ q ∈ lw_privs_6, lw_okq q := List.forall_mem_cons.mpr ⟨lw_p80, List.forall_mem_cons.mpr ⟨lw_p81, List.forall_mem_cons.mpr ⟨lw_p82, List.forall_mem_cons.mpr ⟨lw_p83, List.forall_mem_cons.mpr ⟨lw_p84, List.forall_mem_cons.mpr ⟨lw_p85, List.forall_mem_cons.mpr ⟨lw_p86, List.forall_mem_cons.mpr ⟨lw_p87, List.forall_mem_cons.mpr ⟨lw_p88, List.forall_mem_cons.mpr ⟨lw_p89, List.forall_mem_cons.mpr ⟨lw_p90, List.forall_mem_cons.mpr ⟨lw_p91, List.forall_mem_cons.mpr ⟨lw_p92, List.forall_mem_cons.mpr ⟨lw_p93, List.forall_mem_cons.mpr ⟨lw_p94, List.forall_mem_cons.mpr ⟨lw_p95, fun _ h => absurd h List.not_mem_nil⟩⟩⟩⟩⟩⟩⟩⟩⟩⟩⟩⟩⟩⟩⟩⟩
theorem lw_p96 : lw_okq (⟨"IsHeInModel", "hangsOn", "(III)I"⟩, 35) := ⟨⟨by decide +kernel, by decide +kernel⟩, List.mem_of_getElem? (i := 1249) (by decide +kernel), List.mem_of_getElem? (i := 1610) (by decide +kernel), List.mem_of_getElem? (i := 1611) (by decide +kernel)⟩
theorem lw_p97 : lw_okq (⟨"IsHeInModel", "keyOn", "(I)I"⟩, 35) := ⟨⟨by decide +kernel, by decide +kernel⟩, List.mem_of_getElem? (i := 1249) (by decide +kernel), List.mem_of_getElem? (i := 1614) (by decide +kernel), List.mem_of_getElem? (i := 1615) (by decide +kernel)⟩
theorem lw_p98 : lw_okq (⟨"IsHeInModel", "clerkAt", "(I)I"⟩, 35) := ⟨⟨by decide +kernel, by decide +kernel⟩, List.mem_of_getElem? (i := 1249) (by decide +kernel), List.mem_of_getElem? (i := 1618) (by decide +kernel), List.mem_of_getElem? (i := 1619) (by decide +kernel)⟩
theorem lw_p99 : lw_okq (⟨"IsHeInModel", "notes", "(IIII)V"⟩, 35) := ⟨⟨by decide +kernel, by decide +kernel⟩, List.mem_of_getElem? (i := 1249) (by decide +kernel), List.mem_of_getElem? (i := 1622) (by decide +kernel), List.mem_of_getElem? (i := 1623) (by decide +kernel)⟩
theorem lw_p100 : lw_okq (⟨"IsHeInModel", "isSign", "(I)Z"⟩, 35) := ⟨⟨by decide +kernel, by decide +kernel⟩, List.mem_of_getElem? (i := 1249) (by decide +kernel), List.mem_of_getElem? (i := 1634) (by decide +kernel), List.mem_of_getElem? (i := 1635) (by decide +kernel)⟩
theorem lw_p101 : lw_okq (⟨"IsHeInModel", "sureOf", "(I)J"⟩, 35) := ⟨⟨by decide +kernel, by decide +kernel⟩, List.mem_of_getElem? (i := 1249) (by decide +kernel), List.mem_of_getElem? (i := 1642) (by decide +kernel), List.mem_of_getElem? (i := 1643) (by decide +kernel)⟩
theorem lw_p102 : lw_okq (⟨"IsHeInModel", "bySign", "(JII)J"⟩, 35) := ⟨⟨by decide +kernel, by decide +kernel⟩, List.mem_of_getElem? (i := 1249) (by decide +kernel), List.mem_of_getElem? (i := 1646) (by decide +kernel), List.mem_of_getElem? (i := 1647) (by decide +kernel)⟩
theorem lw_p103 : lw_okq (⟨"IsHeInModel", "byA", "(JJJ)J"⟩, 35) := ⟨⟨by decide +kernel, by decide +kernel⟩, List.mem_of_getElem? (i := 1249) (by decide +kernel), List.mem_of_getElem? (i := 1650) (by decide +kernel), List.mem_of_getElem? (i := 1651) (by decide +kernel)⟩
theorem lw_p104 : lw_okq (⟨"IsHeInModel", "lookedAt", "(I)I"⟩, 35) := ⟨⟨by decide +kernel, by decide +kernel⟩, List.mem_of_getElem? (i := 1249) (by decide +kernel), List.mem_of_getElem? (i := 1655) (by decide +kernel), List.mem_of_getElem? (i := 1656) (by decide +kernel)⟩
theorem lw_p105 : lw_okq (⟨"IsHeInModel", "nextOf", "(JI)I"⟩, 35) := ⟨⟨by decide +kernel, by decide +kernel⟩, List.mem_of_getElem? (i := 1249) (by decide +kernel), List.mem_of_getElem? (i := 1659) (by decide +kernel), List.mem_of_getElem? (i := 1660) (by decide +kernel)⟩
theorem lw_p106 : lw_okq (⟨"IsHeInModel", "worthOf", "(JI)J"⟩, 35) := ⟨⟨by decide +kernel, by decide +kernel⟩, List.mem_of_getElem? (i := 1249) (by decide +kernel), List.mem_of_getElem? (i := 1664) (by decide +kernel), List.mem_of_getElem? (i := 1665) (by decide +kernel)⟩
theorem lw_p107 : lw_okq (⟨"IsHeInModel", "seeing", "(JI)J"⟩, 35) := ⟨⟨by decide +kernel, by decide +kernel⟩, List.mem_of_getElem? (i := 1249) (by decide +kernel), List.mem_of_getElem? (i := 1668) (by decide +kernel), List.mem_of_getElem? (i := 1669) (by decide +kernel)⟩
theorem lw_p108 : lw_okq (⟨"IsHeInModel", "laysChances", "()V"⟩, 35) := ⟨⟨by decide +kernel, by decide +kernel⟩, List.mem_of_getElem? (i := 1249) (by decide +kernel), List.mem_of_getElem? (i := 1705) (by decide +kernel), List.mem_of_getElem? (i := 1706) (by decide +kernel)⟩
theorem lw_p109 : lw_okq (⟨"IsHeInModel", "tagCostOf", "(III)I"⟩, 35) := ⟨⟨by decide +kernel, by decide +kernel⟩, List.mem_of_getElem? (i := 1249) (by decide +kernel), List.mem_of_getElem? (i := 1713) (by decide +kernel), List.mem_of_getElem? (i := 1714) (by decide +kernel)⟩
theorem lw_p110 : lw_okq (⟨"IsHeInModel", "longFrom", "(IJ)I"⟩, 35) := ⟨⟨by decide +kernel, by decide +kernel⟩, List.mem_of_getElem? (i := 1249) (by decide +kernel), List.mem_of_getElem? (i := 1725) (by decide +kernel), List.mem_of_getElem? (i := 1726) (by decide +kernel)⟩
theorem lw_p111 : lw_okq (⟨"IsHeInModel", "laysOthers", "(I)V"⟩, 35) := ⟨⟨by decide +kernel, by decide +kernel⟩, List.mem_of_getElem? (i := 1249) (by decide +kernel), List.mem_of_getElem? (i := 1733) (by decide +kernel), List.mem_of_getElem? (i := 1734) (by decide +kernel)⟩
def lw_privs_7 : List (MethodName × Nat) := [(⟨"IsHeInModel", "hangsOn", "(III)I"⟩, 35), (⟨"IsHeInModel", "keyOn", "(I)I"⟩, 35), (⟨"IsHeInModel", "clerkAt", "(I)I"⟩, 35), (⟨"IsHeInModel", "notes", "(IIII)V"⟩, 35), (⟨"IsHeInModel", "isSign", "(I)Z"⟩, 35), (⟨"IsHeInModel", "sureOf", "(I)J"⟩, 35), (⟨"IsHeInModel", "bySign", "(JII)J"⟩, 35), (⟨"IsHeInModel", "byA", "(JJJ)J"⟩, 35), (⟨"IsHeInModel", "lookedAt", "(I)I"⟩, 35), (⟨"IsHeInModel", "nextOf", "(JI)I"⟩, 35), (⟨"IsHeInModel", "worthOf", "(JI)J"⟩, 35), (⟨"IsHeInModel", "seeing", "(JI)J"⟩, 35), (⟨"IsHeInModel", "laysChances", "()V"⟩, 35), (⟨"IsHeInModel", "tagCostOf", "(III)I"⟩, 35), (⟨"IsHeInModel", "longFrom", "(IJ)I"⟩, 35), (⟨"IsHeInModel", "laysOthers", "(I)V"⟩, 35)]
theorem lw_r7 : ∀ q ∈ lw_privs_7, lw_okq q := List.forall_mem_cons.mpr ⟨lw_p96, List.forall_mem_cons.mpr ⟨lw_p97, List.forall_mem_cons.mpr ⟨lw_p98, List.forall_mem_cons.mpr ⟨lw_p99, List.forall_mem_cons.mpr ⟨lw_p100, List.forall_mem_cons.mpr ⟨lw_p101, List.forall_mem_cons.mpr ⟨lw_p102, List.forall_mem_cons.mpr ⟨lw_p103, List.forall_mem_cons.mpr ⟨lw_p104, List.forall_mem_cons.mpr ⟨lw_p105, List.forall_mem_cons.mpr ⟨lw_p106, List.forall_mem_cons.mpr ⟨lw_p107, List.forall_mem_cons.mpr ⟨lw_p108, List.forall_mem_cons.mpr ⟨lw_p109, List.forall_mem_cons.mpr ⟨lw_p110, List.forall_mem_cons.mpr ⟨lw_p111, fun _ h => absurd h List.not_mem_nil⟩⟩⟩⟩⟩⟩⟩⟩⟩⟩⟩⟩⟩⟩⟩⟩
theorem lw_p112 : lw_okq (⟨"IsHeInModel", "movesIn", "(I)I"⟩, 35) := ⟨⟨by decide +kernel, by decide +kernel⟩, List.mem_of_getElem? (i := 1249) (by decide +kernel), List.mem_of_getElem? (i := 1745) (by decide +kernel), List.mem_of_getElem? (i := 1746) (by decide +kernel)⟩
theorem lw_p113 : lw_okq (⟨"IsHeInModel", "isKnockedAhead", "(II)Z"⟩, 35) := ⟨⟨by decide +kernel, by decide +kernel⟩, List.mem_of_getElem? (i := 1249) (by decide +kernel), List.mem_of_getElem? (i := 1769) (by decide +kernel), List.mem_of_getElem? (i := 1770) (by decide +kernel)⟩
theorem lw_p114 : lw_okq (⟨"IsHeInModel", "ofRoom", "(II)I"⟩, 35) := ⟨⟨by decide +kernel, by decide +kernel⟩, List.mem_of_getElem? (i := 1249) (by decide +kernel), List.mem_of_getElem? (i := 1773) (by decide +kernel), List.mem_of_getElem? (i := 1774) (by decide +kernel)⟩
theorem lw_p115 : lw_okq (⟨"IsHeInModel", "canDo", "(I)Z"⟩, 35) := ⟨⟨by decide +kernel, by decide +kernel⟩, List.mem_of_getElem? (i := 1249) (by decide +kernel), List.mem_of_getElem? (i := 1785) (by decide +kernel), List.mem_of_getElem? (i := 1786) (by decide +kernel)⟩
theorem lw_p116 : lw_okq (⟨"IsHeInModel", "worthOfSet", "(I)I"⟩, 35) := ⟨⟨by decide +kernel, by decide +kernel⟩, List.mem_of_getElem? (i := 1249) (by decide +kernel), List.mem_of_getElem? (i := 1789) (by decide +kernel), List.mem_of_getElem? (i := 1790) (by decide +kernel)⟩
theorem lw_p117 : lw_okq (⟨"IsHeInModel", "swappedSet", "()I"⟩, 35) := ⟨⟨by decide +kernel, by decide +kernel⟩, List.mem_of_getElem? (i := 1249) (by decide +kernel), List.mem_of_getElem? (i := 1804) (by decide +kernel), List.mem_of_getElem? (i := 1805) (by decide +kernel)⟩
theorem lw_p118 : lw_okq (⟨"IsHeInModel", "ringMany", "()I"⟩, 35) := ⟨⟨by decide +kernel, by decide +kernel⟩, List.mem_of_getElem? (i := 1249) (by decide +kernel), List.mem_of_getElem? (i := 1808) (by decide +kernel), List.mem_of_getElem? (i := 1809) (by decide +kernel)⟩
theorem lw_p119 : lw_okq (⟨"IsHeInModel", "leadsRing", "(I)Z"⟩, 35) := ⟨⟨by decide +kernel, by decide +kernel⟩, List.mem_of_getElem? (i := 1249) (by decide +kernel), List.mem_of_getElem? (i := 1812) (by decide +kernel), List.mem_of_getElem? (i := 1813) (by decide +kernel)⟩
theorem lw_p120 : lw_okq (⟨"IsHeInModel", "laysFloors", "()V"⟩, 35) := ⟨⟨by decide +kernel, by decide +kernel⟩, List.mem_of_getElem? (i := 1249) (by decide +kernel), List.mem_of_getElem? (i := 1820) (by decide +kernel), List.mem_of_getElem? (i := 1821) (by decide +kernel)⟩
theorem lw_p121 : lw_okq (⟨"IsHeInModel", "searches", "(IIIJ)V"⟩, 35) := ⟨⟨by decide +kernel, by decide +kernel⟩, List.mem_of_getElem? (i := 1249) (by decide +kernel), List.mem_of_getElem? (i := 1824) (by decide +kernel), List.mem_of_getElem? (i := 1825) (by decide +kernel)⟩
theorem lw_p122 : lw_okq (⟨"IsHeInModel", "laysDoors", "()V"⟩, 35) := ⟨⟨by decide +kernel, by decide +kernel⟩, List.mem_of_getElem? (i := 1249) (by decide +kernel), List.mem_of_getElem? (i := 1832) (by decide +kernel), List.mem_of_getElem? (i := 1833) (by decide +kernel)⟩
theorem lw_p123 : lw_okq (⟨"IsHeInModel", "mostBy", "(III)I"⟩, 35) := ⟨⟨by decide +kernel, by decide +kernel⟩, List.mem_of_getElem? (i := 1249) (by decide +kernel), List.mem_of_getElem? (i := 1836) (by decide +kernel), List.mem_of_getElem? (i := 1837) (by decide +kernel)⟩
theorem lw_p124 : lw_okq (⟨"IsHeInModel", "lastSawBy", "(I)I"⟩, 35) := ⟨⟨by decide +kernel, by decide +kernel⟩, List.mem_of_getElem? (i := 1249) (by decide +kernel), List.mem_of_getElem? (i := 1844) (by decide +kernel), List.mem_of_getElem? (i := 1845) (by decide +kernel)⟩
theorem lw_p125 : lw_okq (⟨"IsHeInModel", "outs", "()I"⟩, 35) := ⟨⟨by decide +kernel, by decide +kernel⟩, List.mem_of_getElem? (i := 1249) (by decide +kernel), List.mem_of_getElem? (i := 1889) (by decide +kernel), List.mem_of_getElem? (i := 1890) (by decide +kernel)⟩
theorem lw_p126 : lw_okq (⟨"IsHeInModel", "hooksWithKeys", "()I"⟩, 35) := ⟨⟨by decide +kernel, by decide +kernel⟩, List.mem_of_getElem? (i := 1249) (by decide +kernel), List.mem_of_getElem? (i := 1893) (by decide +kernel), List.mem_of_getElem? (i := 1894) (by decide +kernel)⟩
def lw_privs_8 : List (MethodName × Nat) := [(⟨"IsHeInModel", "movesIn", "(I)I"⟩, 35), (⟨"IsHeInModel", "isKnockedAhead", "(II)Z"⟩, 35), (⟨"IsHeInModel", "ofRoom", "(II)I"⟩, 35), (⟨"IsHeInModel", "canDo", "(I)Z"⟩, 35), (⟨"IsHeInModel", "worthOfSet", "(I)I"⟩, 35), (⟨"IsHeInModel", "swappedSet", "()I"⟩, 35), (⟨"IsHeInModel", "ringMany", "()I"⟩, 35), (⟨"IsHeInModel", "leadsRing", "(I)Z"⟩, 35), (⟨"IsHeInModel", "laysFloors", "()V"⟩, 35), (⟨"IsHeInModel", "searches", "(IIIJ)V"⟩, 35), (⟨"IsHeInModel", "laysDoors", "()V"⟩, 35), (⟨"IsHeInModel", "mostBy", "(III)I"⟩, 35), (⟨"IsHeInModel", "lastSawBy", "(I)I"⟩, 35), (⟨"IsHeInModel", "outs", "()I"⟩, 35), (⟨"IsHeInModel", "hooksWithKeys", "()I"⟩, 35)]
theorem lw_r8 : ∀ q ∈ lw_privs_8, lw_okq q := List.forall_mem_cons.mpr ⟨lw_p112, List.forall_mem_cons.mpr ⟨lw_p113, List.forall_mem_cons.mpr ⟨lw_p114, List.forall_mem_cons.mpr ⟨lw_p115, List.forall_mem_cons.mpr ⟨lw_p116, List.forall_mem_cons.mpr ⟨lw_p117, List.forall_mem_cons.mpr ⟨lw_p118, List.forall_mem_cons.mpr ⟨lw_p119, List.forall_mem_cons.mpr ⟨lw_p120, List.forall_mem_cons.mpr ⟨lw_p121, List.forall_mem_cons.mpr ⟨lw_p122, List.forall_mem_cons.mpr ⟨lw_p123, List.forall_mem_cons.mpr ⟨lw_p124, List.forall_mem_cons.mpr ⟨lw_p125, List.forall_mem_cons.mpr ⟨lw_p126, fun _ h => absurd h List.not_mem_nil⟩⟩⟩⟩⟩⟩⟩⟩⟩⟩⟩⟩⟩⟩⟩
def lw_privs : List (MethodName × Nat) := lw_privs_1 ++ (lw_privs_2 ++ (lw_privs_3 ++ (lw_privs_4 ++ (lw_privs_5 ++ (lw_privs_6 ++ (lw_privs_7 ++ (lw_privs_8)))))))
def lw_tbl : List Cond := k2_sels lw_privs ++ tables_1
theorem lw_privs_ok : ∀ q ∈ lw_privs, lw_okq q := by
  show ∀ q ∈ lw_privs_1 ++ (lw_privs_2 ++ (lw_privs_3 ++ (lw_privs_4 ++ (lw_privs_5 ++ (lw_privs_6 ++ (lw_privs_7 ++ (lw_privs_8))))))), lw_okq q
  exact List.forall_mem_append.mpr ⟨lw_r1, List.forall_mem_append.mpr ⟨lw_r2, List.forall_mem_append.mpr ⟨lw_r3, List.forall_mem_append.mpr ⟨lw_r4, List.forall_mem_append.mpr ⟨lw_r5, List.forall_mem_append.mpr ⟨lw_r6, List.forall_mem_append.mpr ⟨lw_r7, lw_r8⟩⟩⟩⟩⟩⟩⟩

def RX0 : String := "IsHeIn$Belief"
def TX0 : u_T := fun k => match k with
  | 0 => ("IsHeIn$Belief", "house", "LIsHeIn$House;", true)
  | 1 => ("IsHeIn$Belief", "law", "LIsHeIn$Law;", true)
  | 2 => ("IsHeIn$Belief", "glance", "[I", true)
  | 3 => ("IsHeIn$Belief", "chances", "[I", true)
  | _ => ("IsHeIn$Belief", "sures", "[I", true)
def tyX0 : Nat → FieldType := fun k => match k with
  | 0 => .object "IsHeIn$House"
  | 1 => .object "IsHeIn$Law"
  | 2 => .array .int
  | 3 => .array .int
  | _ => .array .int
theorem nmX0 : ∀ a, a < 5 → ∀ b, b < 5 → a ≠ b → (TX0 a).2.1 ≠ (TX0 b).2.1 := by decide +kernel
theorem tyX0_ok : ∀ k, k < 5 → parseFieldDescriptor (TX0 k).2.2.1 = some (tyX0 k) := by decide +kernel
def RX1 : String := "IsHeIn$Foresight"
def TX1 : u_T := fun k => match k with
  | 0 => ("IsHeIn$Foresight", "house", "LIsHeIn$House;", true)
  | 1 => ("IsHeIn$Foresight", "law", "LIsHeIn$Law;", true)
  | 2 => ("IsHeIn$Foresight", "seen", "LIsHeIn$Table;", true)
  | _ => ("IsHeIn$Foresight", "rest", "LIsHeIn$Table;", true)
def tyX1 : Nat → FieldType := fun k => match k with
  | 0 => .object "IsHeIn$House"
  | 1 => .object "IsHeIn$Law"
  | 2 => .object "IsHeIn$Table"
  | _ => .object "IsHeIn$Table"
theorem nmX1 : ∀ a, a < 4 → ∀ b, b < 4 → a ≠ b → (TX1 a).2.1 ≠ (TX1 b).2.1 := by decide +kernel
theorem tyX1_ok : ∀ k, k < 4 → parseFieldDescriptor (TX1 k).2.2.1 = some (tyX1 k) := by decide +kernel
def RX2 : String := "IsHeIn$House"
def TX2 : u_T := fun k => match k with
  | 0 => ("IsHeIn$House", "guests", "LIsHeIn$Table;", true)
  | 1 => ("IsHeIn$House", "book", "LIsHeIn$Table;", true)
  | 2 => ("IsHeIn$House", "laws", "LIsHeIn$Table;", true)
  | 3 => ("IsHeIn$House", "code", "LIsHeIn$Table;", true)
  | 4 => ("IsHeIn$House", "signs", "LIsHeIn$Table;", true)
  | 5 => ("IsHeIn$House", "shifts", "LIsHeIn$Table;", true)
  | 6 => ("IsHeIn$House", "rooms", "LIsHeIn$Table;", true)
  | 7 => ("IsHeIn$House", "callers", "LIsHeIn$Table;", true)
  | 8 => ("IsHeIn$House", "pear", "I", false)
  | 9 => ("IsHeIn$House", "rain", "I", false)
  | 10 => ("IsHeIn$House", "hour", "I", false)
  | _ => ("IsHeIn$House", "draws", "I", false)
def tyX2 : Nat → FieldType := fun k => match k with
  | 0 => .object "IsHeIn$Table"
  | 1 => .object "IsHeIn$Table"
  | 2 => .object "IsHeIn$Table"
  | 3 => .object "IsHeIn$Table"
  | 4 => .object "IsHeIn$Table"
  | 5 => .object "IsHeIn$Table"
  | 6 => .object "IsHeIn$Table"
  | 7 => .object "IsHeIn$Table"
  | 8 => .int
  | 9 => .int
  | 10 => .int
  | _ => .int
theorem nmX2 : ∀ a, a < 12 → ∀ b, b < 12 → a ≠ b → (TX2 a).2.1 ≠ (TX2 b).2.1 := by decide +kernel
theorem tyX2_ok : ∀ k, k < 12 → parseFieldDescriptor (TX2 k).2.2.1 = some (tyX2 k) := by decide +kernel
def RX3 : String := "IsHeIn$Law"
def TX3 : u_T := fun k => match k with
  | 0 => ("IsHeIn$Law", "house", "LIsHeIn$House;", true)
  | 1 => ("IsHeIn$Law", "known", "[I", true)
  | _ => ("IsHeIn$Law", "stack", "[I", true)
def tyX3 : Nat → FieldType := fun k => match k with
  | 0 => .object "IsHeIn$House"
  | 1 => .array .int
  | _ => .array .int
theorem nmX3 : ∀ a, a < 3 → ∀ b, b < 3 → a ≠ b → (TX3 a).2.1 ≠ (TX3 b).2.1 := by decide +kernel
theorem tyX3_ok : ∀ k, k < 3 → parseFieldDescriptor (TX3 k).2.2.1 = some (tyX3 k) := by decide +kernel
def RX4 : String := "IsHeIn$Moment"
def TX4 : u_T := fun k => match k with
  | 0 => ("IsHeIn$Moment", "guests", "LIsHeIn$Table;", true)
  | 1 => ("IsHeIn$Moment", "lines", "I", false)
  | 2 => ("IsHeIn$Moment", "hour", "I", false)
  | _ => ("IsHeIn$Moment", "draws", "I", false)
def tyX4 : Nat → FieldType := fun k => match k with
  | 0 => .object "IsHeIn$Table"
  | 1 => .int
  | 2 => .int
  | _ => .int
theorem nmX4 : ∀ a, a < 4 → ∀ b, b < 4 → a ≠ b → (TX4 a).2.1 ≠ (TX4 b).2.1 := by decide +kernel
theorem tyX4_ok : ∀ k, k < 4 → parseFieldDescriptor (TX4 k).2.2.1 = some (tyX4 k) := by decide +kernel
def RX5 : String := "IsHeIn$Past"
def TX5 : u_T := fun k => match k with
  | 0 => ("IsHeIn$Past", "moments", "[LIsHeIn$Moment;", true)
  | 1 => ("IsHeIn$Past", "count", "I", false)
  | _ => ("IsHeIn$Past", "top", "I", false)
def tyX5 : Nat → FieldType := fun k => match k with
  | 0 => .array (.object "IsHeIn$Moment")
  | 1 => .int
  | _ => .int
theorem nmX5 : ∀ a, a < 3 → ∀ b, b < 3 → a ≠ b → (TX5 a).2.1 ≠ (TX5 b).2.1 := by decide +kernel
theorem tyX5_ok : ∀ k, k < 3 → parseFieldDescriptor (TX5 k).2.2.1 = some (tyX5 k) := by decide +kernel
def RX6 : String := "IsHeIn$Porter"
def TX6 : u_T := fun k => match k with
  | 0 => ("IsHeIn$Porter", "house", "LIsHeIn$House;", true)
  | 1 => ("IsHeIn$Porter", "law", "LIsHeIn$Law;", true)
  | _ => ("IsHeIn$Porter", "told", "[I", true)
def tyX6 : Nat → FieldType := fun k => match k with
  | 0 => .object "IsHeIn$House"
  | 1 => .object "IsHeIn$Law"
  | _ => .array .int
theorem nmX6 : ∀ a, a < 3 → ∀ b, b < 3 → a ≠ b → (TX6 a).2.1 ≠ (TX6 b).2.1 := by decide +kernel
theorem tyX6_ok : ∀ k, k < 3 → parseFieldDescriptor (TX6 k).2.2.1 = some (tyX6 k) := by decide +kernel
def RX7 : String := "IsHeIn$Reader"
def TX7 : u_T := fun k => match k with
  | 0 => ("IsHeIn$Reader", "laws", "LIsHeIn$Table;", true)
  | 1 => ("IsHeIn$Reader", "code", "LIsHeIn$Table;", true)
  | 2 => ("IsHeIn$Reader", "signs", "LIsHeIn$Table;", true)
  | 3 => ("IsHeIn$Reader", "shifts", "LIsHeIn$Table;", true)
  | 4 => ("IsHeIn$Reader", "tape", "[I", true)
  | 5 => ("IsHeIn$Reader", "tokens", "LIsHeIn$Table;", true)
  | 6 => ("IsHeIn$Reader", "waiting", "[I", true)
  | 7 => ("IsHeIn$Reader", "waitingCount", "I", false)
  | 8 => ("IsHeIn$Reader", "openCount", "I", false)
  | 9 => ("IsHeIn$Reader", "length", "I", false)
  | 10 => ("IsHeIn$Reader", "fault", "I", false)
  | 11 => ("IsHeIn$Reader", "faultPlace", "I", false)
  | 12 => ("IsHeIn$Reader", "token", "I", false)
  | 13 => ("IsHeIn$Reader", "place", "I", false)
  | 14 => ("IsHeIn$Reader", "kind", "I", false)
  | 15 => ("IsHeIn$Reader", "value", "I", false)
  | _ => ("IsHeIn$Reader", "start", "I", false)
def tyX7 : Nat → FieldType := fun k => match k with
  | 0 => .object "IsHeIn$Table"
  | 1 => .object "IsHeIn$Table"
  | 2 => .object "IsHeIn$Table"
  | 3 => .object "IsHeIn$Table"
  | 4 => .array .int
  | 5 => .object "IsHeIn$Table"
  | 6 => .array .int
  | 7 => .int
  | 8 => .int
  | 9 => .int
  | 10 => .int
  | 11 => .int
  | 12 => .int
  | 13 => .int
  | 14 => .int
  | 15 => .int
  | _ => .int
theorem nmX7 : ∀ a, a < 17 → ∀ b, b < 17 → a ≠ b → (TX7 a).2.1 ≠ (TX7 b).2.1 := by decide +kernel
theorem tyX7_ok : ∀ k, k < 17 → parseFieldDescriptor (TX7 k).2.2.1 = some (tyX7 k) := by decide +kernel
def RX8 : String := "IsHeIn$Records"
def TX8 : u_T := fun k => match k with
  | _ => ("IsHeIn$Records", "house", "LIsHeIn$House;", true)
def tyX8 : Nat → FieldType := fun k => match k with
  | _ => .object "IsHeIn$House"
theorem nmX8 : ∀ a, a < 1 → ∀ b, b < 1 → a ≠ b → (TX8 a).2.1 ≠ (TX8 b).2.1 := by decide +kernel
theorem tyX8_ok : ∀ k, k < 1 → parseFieldDescriptor (TX8 k).2.2.1 = some (tyX8 k) := by decide +kernel
def RX9 : String := "IsHeIn$Rounds"
def TX9 : u_T := fun k => match k with
  | 0 => ("IsHeIn$Rounds", "house", "LIsHeIn$House;", true)
  | 1 => ("IsHeIn$Rounds", "belief", "LIsHeIn$Belief;", true)
  | 2 => ("IsHeIn$Rounds", "sures", "[I", true)
  | 3 => ("IsHeIn$Rounds", "onFloor", "[I", true)
  | 4 => ("IsHeIn$Rounds", "row", "[I", true)
  | 5 => ("IsHeIn$Rounds", "bestRow", "[I", true)
  | 6 => ("IsHeIn$Rounds", "bestLength", "I", false)
  | _ => ("IsHeIn$Rounds", "mostFound", "J", false)
def tyX9 : Nat → FieldType := fun k => match k with
  | 0 => .object "IsHeIn$House"
  | 1 => .object "IsHeIn$Belief"
  | 2 => .array .int
  | 3 => .array .int
  | 4 => .array .int
  | 5 => .array .int
  | 6 => .int
  | _ => .long
theorem nmX9 : ∀ a, a < 8 → ∀ b, b < 8 → a ≠ b → (TX9 a).2.1 ≠ (TX9 b).2.1 := by decide +kernel
theorem tyX9_ok : ∀ k, k < 8 → parseFieldDescriptor (TX9 k).2.2.1 = some (tyX9 k) := by decide +kernel
def RX10 : String := "IsHeIn$Table"
def TX10 : u_T := fun k => match k with
  | 0 => ("IsHeIn$Table", "most", "I", true)
  | 1 => ("IsHeIn$Table", "width", "I", true)
  | 2 => ("IsHeIn$Table", "cells", "[I", true)
  | _ => ("IsHeIn$Table", "rows", "I", false)
def tyX10 : Nat → FieldType := fun k => match k with
  | 0 => .int
  | 1 => .int
  | 2 => .array .int
  | _ => .int
theorem nmX10 : ∀ a, a < 4 → ∀ b, b < 4 → a ≠ b → (TX10 a).2.1 ≠ (TX10 b).2.1 := by decide +kernel
theorem tyX10_ok : ∀ k, k < 4 → parseFieldDescriptor (TX10 k).2.2.1 = some (tyX10 k) := by decide +kernel
def RX11 : String := "IsHeIn"
def TX11 : u_T := fun k => match k with
  | 0 => ("IsHeIn", "house", "LIsHeIn$House;", true)
  | 1 => ("IsHeIn", "kept", "LIsHeIn$House;", true)
  | 2 => ("IsHeIn", "isKept", "Z", false)
  | 3 => ("IsHeIn", "past", "LIsHeIn$Past;", true)
  | 4 => ("IsHeIn", "reader", "LIsHeIn$Reader;", true)
  | 5 => ("IsHeIn", "law", "LIsHeIn$Law;", true)
  | 6 => ("IsHeIn", "porter", "LIsHeIn$Porter;", true)
  | 7 => ("IsHeIn", "belief", "LIsHeIn$Belief;", true)
  | 8 => ("IsHeIn", "foresight", "LIsHeIn$Foresight;", true)
  | 9 => ("IsHeIn", "records", "LIsHeIn$Records;", true)
  | _ => ("IsHeIn", "rounds", "LIsHeIn$Rounds;", true)
def tyX11 : Nat → FieldType := fun k => match k with
  | 0 => .object "IsHeIn$House"
  | 1 => .object "IsHeIn$House"
  | 2 => .boolean
  | 3 => .object "IsHeIn$Past"
  | 4 => .object "IsHeIn$Reader"
  | 5 => .object "IsHeIn$Law"
  | 6 => .object "IsHeIn$Porter"
  | 7 => .object "IsHeIn$Belief"
  | 8 => .object "IsHeIn$Foresight"
  | 9 => .object "IsHeIn$Records"
  | _ => .object "IsHeIn$Rounds"
theorem nmX11 : ∀ a, a < 11 → ∀ b, b < 11 → a ≠ b → (TX11 a).2.1 ≠ (TX11 b).2.1 := by decide +kernel
theorem tyX11_ok : ∀ k, k < 11 → parseFieldDescriptor (TX11 k).2.2.1 = some (tyX11 k) := by decide +kernel
def RX12 : String := "IsHeInModel"
def TX12 : u_T := fun k => match k with
  | 0 => ("IsHeInModel", "w", "[I", true)
  | 1 => ("IsHeInModel", "kept", "[I", true)
  | 2 => ("IsHeInModel", "back", "[I", true)
  | 3 => ("IsHeInModel", "backMany", "I", false)
  | 4 => ("IsHeInModel", "hasImage", "Z", false)
  | 5 => ("IsHeInModel", "freshLine", "[I", true)
  | 6 => ("IsHeInModel", "freshStep", "[I", true)
  | 7 => ("IsHeInModel", "freshRow", "[I", true)
  | 8 => ("IsHeInModel", "tape", "[I", true)
  | 9 => ("IsHeInModel", "pile", "[I", true)
  | 10 => ("IsHeInModel", "facts", "[I", true)
  | 11 => ("IsHeInModel", "reading", "I", false)
  | 12 => ("IsHeInModel", "lines", "I", false)
  | 13 => ("IsHeInModel", "steps", "I", false)
  | 14 => ("IsHeInModel", "rows", "I", false)
  | 15 => ("IsHeInModel", "taped", "I", false)
  | 16 => ("IsHeInModel", "at", "I", false)
  | 17 => ("IsHeInModel", "token", "I", false)
  | 18 => ("IsHeInModel", "tokenAt", "I", false)
  | 19 => ("IsHeInModel", "value", "I", false)
  | 20 => ("IsHeInModel", "wrong", "I", false)
  | 21 => ("IsHeInModel", "wrongAt", "I", false)
  | 22 => ("IsHeInModel", "faultKind", "I", false)
  | 23 => ("IsHeInModel", "depth", "I", false)
  | 24 => ("IsHeInModel", "faultPlace", "I", false)
  | 25 => ("IsHeInModel", "numbered", "I", false)
  | 26 => ("IsHeInModel", "chance", "[J", true)
  | 27 => ("IsHeInModel", "others", "[J", true)
  | 28 => ("IsHeInModel", "onFloor", "[J", true)
  | 29 => ("IsHeInModel", "way", "[I", true)
  | 30 => ("IsHeInModel", "bestWay", "[I", true)
  | 31 => ("IsHeInModel", "mostFound", "J", false)
  | 32 => ("IsHeInModel", "bestLong", "I", false)
  | 33 => ("IsHeInModel", "seenAt", "[I", true)
  | _ => ("IsHeInModel", "mostFrom", "[I", true)
def tyX12 : Nat → FieldType := fun k => match k with
  | 0 => .array .int
  | 1 => .array .int
  | 2 => .array .int
  | 3 => .int
  | 4 => .boolean
  | 5 => .array .int
  | 6 => .array .int
  | 7 => .array .int
  | 8 => .array .int
  | 9 => .array .int
  | 10 => .array .int
  | 11 => .int
  | 12 => .int
  | 13 => .int
  | 14 => .int
  | 15 => .int
  | 16 => .int
  | 17 => .int
  | 18 => .int
  | 19 => .int
  | 20 => .int
  | 21 => .int
  | 22 => .int
  | 23 => .int
  | 24 => .int
  | 25 => .int
  | 26 => .array .long
  | 27 => .array .long
  | 28 => .array .long
  | 29 => .array .int
  | 30 => .array .int
  | 31 => .long
  | 32 => .int
  | 33 => .array .int
  | _ => .array .int
theorem nmX12 : ∀ a, a < 35 → ∀ b, b < 35 → a ≠ b → (TX12 a).2.1 ≠ (TX12 b).2.1 := by decide +kernel
theorem tyX12_ok : ∀ k, k < 35 → parseFieldDescriptor (TX12 k).2.2.1 = some (tyX12 k) := by decide +kernel
/-- the classes whose objects the world holds -/
def m_cl : List vw_C := [(RX0, TX0, 5), (RX1, TX1, 4), (RX2, TX2, 12), (RX3, TX3, 3), (RX4, TX4, 4), (RX5, TX5, 3), (RX6, TX6, 3), (RX7, TX7, 17), (RX8, TX8, 1), (RX9, TX9, 8), (RX10, TX10, 4), (RX11, TX11, 11), (RX12, TX12, 35)]
def m_ty : Nat → Nat → FieldType := fun c => match c with
  | 0 => tyX0
  | 1 => tyX1
  | 2 => tyX2
  | 3 => tyX3
  | 4 => tyX4
  | 5 => tyX5
  | 6 => tyX6
  | 7 => tyX7
  | 8 => tyX8
  | 9 => tyX9
  | 10 => tyX10
  | 11 => tyX11
  | _ => tyX12
def m_df : Nat → List Value := fun c => match c with
  | 0 => [.null, .null, .null, .null, .null]
  | 1 => [.null, .null, .null, .null]
  | 2 => [.null, .null, .null, .null, .null, .null, .null, .null, .int 0, .int 0, .int 0, .int 0]
  | 3 => [.null, .null, .null]
  | 4 => [.null, .int 0, .int 0, .int 0]
  | 5 => [.null, .int 0, .int 0]
  | 6 => [.null, .null, .null]
  | 7 => [.null, .null, .null, .null, .null, .null, .null, .int 0, .int 0, .int 0, .int 0, .int 0, .int 0, .int 0, .int 0, .int 0, .int 0]
  | 8 => [.null]
  | 9 => [.null, .null, .null, .null, .null, .null, .int 0, .long 0]
  | 10 => [.int 0, .int 0, .null, .int 0]
  | 11 => [.null, .null, .int 0, .null, .null, .null, .null, .null, .null, .null, .null]
  | _ => [.null, .null, .null, .int 0, .int 0, .null, .null, .null, .null, .null, .null, .int 0, .int 0, .int 0, .int 0, .int 0, .int 0, .int 0, .int 0, .int 0, .int 0, .int 0, .int 0, .int 0, .int 0, .int 0, .null, .null, .null, .null, .null, .long 0, .int 0, .null, .null]
def m_nest : List Cond := [(Jvm.Cond.methodLinkNest "IsHeIn" (11 : Nat) ({ cls := "IsHeIn$House", name := "<init>", desc := "()V" } : Jvm.MethodName) "IsHeIn"), (Jvm.Cond.methodLinkNest "IsHeIn$Past" (24 : Nat) ({ cls := "IsHeIn$Moment", name := "<init>", desc := "()V" } : Jvm.MethodName) "IsHeIn"), (Jvm.Cond.methodLinkNest "IsHeIn" (32 : Nat) ({ cls := "IsHeIn$Reader", name := "<init>", desc := "()V" } : Jvm.MethodName) "IsHeIn"), (Jvm.Cond.methodLinkNest "IsHeIn$Law" (22 : Nat) ({ cls := "IsHeIn", name := "put", desc := "([III)V" } : Jvm.MethodName) "IsHeIn"), (Jvm.Cond.methodLinkNest "IsHeIn$Law" (69 : Nat) ({ cls := "IsHeIn", name := "cell", desc := "([II)I" } : Jvm.MethodName) "IsHeIn"), (Jvm.Cond.fieldLinkNest "IsHeIn$Law" (73 : Nat) "IsHeIn" "UNTOLD" "[I" "IsHeIn"), (Jvm.Cond.methodLinkNest "IsHeIn$Porter" (78 : Nat) ({ cls := "IsHeIn", name := "cell", desc := "([II)I" } : Jvm.MethodName) "IsHeIn"), (Jvm.Cond.methodLinkNest "IsHeIn$Reader" (70 : Nat) ({ cls := "IsHeIn", name := "put", desc := "([III)V" } : Jvm.MethodName) "IsHeIn"), (Jvm.Cond.methodLinkNest "IsHeIn$Reader" (112 : Nat) ({ cls := "IsHeIn", name := "cell", desc := "([II)I" } : Jvm.MethodName) "IsHeIn"), (Jvm.Cond.methodLinkNest "IsHeIn$Reader" (173 : Nat) ({ cls := "IsHeIn", name := "isWithin", desc := "(III)Z" } : Jvm.MethodName) "IsHeIn"), (Jvm.Cond.methodLinkNest "IsHeIn$Belief" (64 : Nat) ({ cls := "IsHeIn", name := "cell", desc := "([II)I" } : Jvm.MethodName) "IsHeIn"), (Jvm.Cond.methodLinkNest "IsHeIn$Belief" (96 : Nat) ({ cls := "IsHeIn", name := "put", desc := "([III)V" } : Jvm.MethodName) "IsHeIn"), (Jvm.Cond.methodLinkNest "IsHeIn$Belief" (110 : Nat) ({ cls := "IsHeIn", name := "share", desc := "(II)I" } : Jvm.MethodName) "IsHeIn"), (Jvm.Cond.methodLinkNest "IsHeIn$Rounds" (61 : Nat) ({ cls := "IsHeIn", name := "put", desc := "([III)V" } : Jvm.MethodName) "IsHeIn"), (Jvm.Cond.methodLinkNest "IsHeIn$Rounds" (68 : Nat) ({ cls := "IsHeIn", name := "cell", desc := "([II)I" } : Jvm.MethodName) "IsHeIn")]
/-- the String constants: owner, place in its pool, text -/
def m_str : List (String × Nat × String) := [("IsHeIn$Reader", 145, "go come carry stray front prior guest floor age clock day pear rain board since when or and not sign in out clerk from for at "), ("IsHeInModel", 135, "when"), ("IsHeInModel", 137, "or"), ("IsHeInModel", 139, "and"), ("IsHeInModel", 141, "not"), ("IsHeInModel", 114, "guest"), ("IsHeInModel", 116, "floor"), ("IsHeInModel", 118, "age"), ("IsHeInModel", 120, "clock"), ("IsHeInModel", 122, "day"), ("IsHeInModel", 124, "pear"), ("IsHeInModel", 126, "rain"), ("IsHeInModel", 128, "board"), ("IsHeInModel", 130, "since"), ("IsHeInModel", 98, "go"), ("IsHeInModel", 104, "come"), ("IsHeInModel", 106, "carry"), ("IsHeInModel", 108, "stray"), ("IsHeInModel", 110, "front"), ("IsHeInModel", 112, "prior"), ("IsHeInModel", 146, "sign"), ("IsHeInModel", 148, "in"), ("IsHeInModel", 150, "out"), ("IsHeInModel", 152, "clerk"), ("IsHeInModel", 154, "from"), ("IsHeInModel", 156, "for"), ("IsHeInModel", 158, "at")]
def m_sb : List (List Int32) := [[103, 111, 32, 99, 111, 109, 101, 32, 99, 97, 114, 114, 121, 32, 115, 116, 114, 97, 121, 32, 102, 114, 111, 110, 116, 32, 112, 114, 105, 111, 114, 32, 103, 117, 101, 115, 116, 32, 102, 108, 111, 111, 114, 32, 97, 103, 101, 32, 99, 108, 111, 99, 107, 32, 100, 97, 121, 32, 112, 101, 97, 114, 32, 114, 97, 105, 110, 32, 98, 111, 97, 114, 100, 32, 115, 105, 110, 99, 101, 32, 119, 104, 101, 110, 32, 111, 114, 32, 97, 110, 100, 32, 110, 111, 116, 32, 115, 105, 103, 110, 32, 105, 110, 32, 111, 117, 116, 32, 99, 108, 101, 114, 107, 32, 102, 114, 111, 109, 32, 102, 111, 114, 32, 97, 116, 32], [119, 104, 101, 110], [111, 114], [97, 110, 100], [110, 111, 116], [103, 117, 101, 115, 116], [102, 108, 111, 111, 114], [97, 103, 101], [99, 108, 111, 99, 107], [100, 97, 121], [112, 101, 97, 114], [114, 97, 105, 110], [98, 111, 97, 114, 100], [115, 105, 110, 99, 101], [103, 111], [99, 111, 109, 101], [99, 97, 114, 114, 121], [115, 116, 114, 97, 121], [102, 114, 111, 110, 116], [112, 114, 105, 111, 114], [115, 105, 103, 110], [105, 110], [111, 117, 116], [99, 108, 101, 114, 107], [102, 114, 111, 109], [102, 111, 114], [97, 116]]
