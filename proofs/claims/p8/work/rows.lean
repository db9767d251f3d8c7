section
-- ===== PART A: goes FIRST, ahead of the names: the tables' words, and 'selects' of the private methods out of them =====
/-- a private method of a class that the tables say can be made, by its rows of tables_1 -/
def lw_okq (q : MethodName × Nat) : Prop := (q.1.cls ≠ "java/lang/invoke/MethodHandle" ∧ q.1.cls ≠ "java/lang/invoke/VarHandle") ∧ Cond.instantiable q.1.cls q.2 ∈ tables_1 ∧ Cond.privateMethod q.1 ∈ tables_1 ∧ Cond.instanceMethod q.1 ∈ tables_1
theorem lw_p0 : lw_okq (⟨"IsHeIn", "canSet", "(III)Z"⟩, 11) := ⟨⟨by decide +kernel, by decide +kernel⟩, List.mem_of_getElem? (i := 21) (by decide +kernel), List.mem_of_getElem? (i := 437) (by decide +kernel), List.mem_of_getElem? (i := 438) (by decide +kernel)⟩
theorem lw_p1 : lw_okq (⟨"IsHeIn$Past", "momentAt", "(I)LIsHeIn$Moment;"⟩, 3) := ⟨⟨by decide +kernel, by decide +kernel⟩, List.mem_of_getElem? (i := 138) (by decide +kernel), List.mem_of_getElem? (i := 474) (by decide +kernel), List.mem_of_getElem? (i := 475) (by decide +kernel)⟩
theorem lw_p2 : lw_okq (⟨"IsHeIn$Porter", "ask", "(I)V"⟩, 3) := ⟨⟨by decide +kernel, by decide +kernel⟩, List.mem_of_getElem? (i := 260) (by decide +kernel), List.mem_of_getElem? (i := 512) (by decide +kernel), List.mem_of_getElem? (i := 513) (by decide +kernel)⟩
theorem lw_p3 : lw_okq (⟨"IsHeIn$Law", "valueOf", "(II)I"⟩, 3) := ⟨⟨by decide +kernel, by decide +kernel⟩, List.mem_of_getElem? (i := 244) (by decide +kernel), List.mem_of_getElem? (i := 532) (by decide +kernel), List.mem_of_getElem? (i := 533) (by decide +kernel)⟩
theorem lw_p4 : lw_okq (⟨"IsHeIn$Porter", "comes", "(I)Z"⟩, 3) := ⟨⟨by decide +kernel, by decide +kernel⟩, List.mem_of_getElem? (i := 260) (by decide +kernel), List.mem_of_getElem? (i := 547) (by decide +kernel), List.mem_of_getElem? (i := 548) (by decide +kernel)⟩
theorem lw_p5 : lw_okq (⟨"IsHeIn$Porter", "isDrawn", "(I)Z"⟩, 3) := ⟨⟨by decide +kernel, by decide +kernel⟩, List.mem_of_getElem? (i := 260) (by decide +kernel), List.mem_of_getElem? (i := 551) (by decide +kernel), List.mem_of_getElem? (i := 552) (by decide +kernel)⟩
theorem lw_p6 : lw_okq (⟨"IsHeIn$Porter", "goes", "(I)Z"⟩, 3) := ⟨⟨by decide +kernel, by decide +kernel⟩, List.mem_of_getElem? (i := 260) (by decide +kernel), List.mem_of_getElem? (i := 568) (by decide +kernel), List.mem_of_getElem? (i := 569) (by decide +kernel)⟩
theorem lw_p7 : lw_okq (⟨"IsHeIn$Porter", "hangKey", "(I)V"⟩, 3) := ⟨⟨by decide +kernel, by decide +kernel⟩, List.mem_of_getElem? (i := 260) (by decide +kernel), List.mem_of_getElem? (i := 572) (by decide +kernel), List.mem_of_getElem? (i := 573) (by decide +kernel)⟩
theorem lw_p8 : lw_okq (⟨"IsHeIn$Reader", "splitTape", "()V"⟩, 17) := ⟨⟨by decide +kernel, by decide +kernel⟩, List.mem_of_getElem? (i := 177) (by decide +kernel), List.mem_of_getElem? (i := 604) (by decide +kernel), List.mem_of_getElem? (i := 605) (by decide +kernel)⟩
theorem lw_p9 : lw_okq (⟨"IsHeIn$Reader", "skipBlanks", "()Z"⟩, 17) := ⟨⟨by decide +kernel, by decide +kernel⟩, List.mem_of_getElem? (i := 177) (by decide +kernel), List.mem_of_getElem? (i := 612) (by decide +kernel), List.mem_of_getElem? (i := 613) (by decide +kernel)⟩
theorem lw_p10 : lw_okq (⟨"IsHeIn$Reader", "splitWord", "()V"⟩, 17) := ⟨⟨by decide +kernel, by decide +kernel⟩, List.mem_of_getElem? (i := 177) (by decide +kernel), List.mem_of_getElem? (i := 623) (by decide +kernel), List.mem_of_getElem? (i := 624) (by decide +kernel)⟩
theorem lw_p11 : lw_okq (⟨"IsHeIn$Reader", "wordNumber", "(I)I"⟩, 17) := ⟨⟨by decide +kernel, by decide +kernel⟩, List.mem_of_getElem? (i := 177) (by decide +kernel), List.mem_of_getElem? (i := 627) (by decide +kernel), List.mem_of_getElem? (i := 628) (by decide +kernel)⟩
theorem lw_p12 : lw_okq (⟨"IsHeIn$Reader", "isWord", "(III)Z"⟩, 17) := ⟨⟨by decide +kernel, by decide +kernel⟩, List.mem_of_getElem? (i := 177) (by decide +kernel), List.mem_of_getElem? (i := 680) (by decide +kernel), List.mem_of_getElem? (i := 681) (by decide +kernel)⟩
theorem lw_p13 : lw_okq (⟨"IsHeIn$Reader", "addToken", "(III)V"⟩, 17) := ⟨⟨by decide +kernel, by decide +kernel⟩, List.mem_of_getElem? (i := 177) (by decide +kernel), List.mem_of_getElem? (i := 685) (by decide +kernel), List.mem_of_getElem? (i := 686) (by decide +kernel)⟩
theorem lw_p14 : lw_okq (⟨"IsHeIn$Reader", "splitNumber", "()V"⟩, 17) := ⟨⟨by decide +kernel, by decide +kernel⟩, List.mem_of_getElem? (i := 177) (by decide +kernel), List.mem_of_getElem? (i := 694) (by decide +kernel), List.mem_of_getElem? (i := 695) (by decide +kernel)⟩
theorem lw_p15 : lw_okq (⟨"IsHeIn$Reader", "stepOn", "()V"⟩, 17) := ⟨⟨by decide +kernel, by decide +kernel⟩, List.mem_of_getElem? (i := 177) (by decide +kernel), List.mem_of_getElem? (i := 698) (by decide +kernel), List.mem_of_getElem? (i := 699) (by decide +kernel)⟩
def lw_privs_1 : List (MethodName × Nat) := [(⟨"IsHeIn", "canSet", "(III)Z"⟩, 11), (⟨"IsHeIn$Past", "momentAt", "(I)LIsHeIn$Moment;"⟩, 3), (⟨"IsHeIn$Porter", "ask", "(I)V"⟩, 3), (⟨"IsHeIn$Law", "valueOf", "(II)I"⟩, 3), (⟨"IsHeIn$Porter", "comes", "(I)Z"⟩, 3), (⟨"IsHeIn$Porter", "isDrawn", "(I)Z"⟩, 3), (⟨"IsHeIn$Porter", "goes", "(I)Z"⟩, 3), (⟨"IsHeIn$Porter", "hangKey", "(I)V"⟩, 3), (⟨"IsHeIn$Reader", "splitTape", "()V"⟩, 17), (⟨"IsHeIn$Reader", "skipBlanks", "()Z"⟩, 17), (⟨"IsHeIn$Reader", "splitWord", "()V"⟩, 17), (⟨"IsHeIn$Reader", "wordNumber", "(I)I"⟩, 17), (⟨"IsHeIn$Reader", "isWord", "(III)Z"⟩, 17), (⟨"IsHeIn$Reader", "addToken", "(III)V"⟩, 17), (⟨"IsHeIn$Reader", "splitNumber", "()V"⟩, 17), (⟨"IsHeIn$Reader", "stepOn", "()V"⟩, 17)]
theorem lw_r1 : ∀ q ∈ lw_privs_1, lw_okq q := List.forall_mem_cons.mpr ⟨lw_p0, List.forall_mem_cons.mpr ⟨lw_p1, List.forall_mem_cons.mpr ⟨lw_p2, List.forall_mem_cons.mpr ⟨lw_p3, List.forall_mem_cons.mpr ⟨lw_p4, List.forall_mem_cons.mpr ⟨lw_p5, List.forall_mem_cons.mpr ⟨lw_p6, List.forall_mem_cons.mpr ⟨lw_p7, List.forall_mem_cons.mpr ⟨lw_p8, List.forall_mem_cons.mpr ⟨lw_p9, List.forall_mem_cons.mpr ⟨lw_p10, List.forall_mem_cons.mpr ⟨lw_p11, List.forall_mem_cons.mpr ⟨lw_p12, List.forall_mem_cons.mpr ⟨lw_p13, List.forall_mem_cons.mpr ⟨lw_p14, List.forall_mem_cons.mpr ⟨lw_p15, fun _ h => absurd h List.not_mem_nil⟩⟩⟩⟩⟩⟩⟩⟩⟩⟩⟩⟩⟩⟩⟩⟩
theorem lw_p16 : lw_okq (⟨"IsHeIn$Reader", "readLaw", "()Z"⟩, 17) := ⟨⟨by decide +kernel, by decide +kernel⟩, List.mem_of_getElem? (i := 177) (by decide +kernel), List.mem_of_getElem? (i := 704) (by decide +kernel), List.mem_of_getElem? (i := 705) (by decide +kernel)⟩
theorem lw_p17 : lw_okq (⟨"IsHeIn$Reader", "refuse", "(I)Z"⟩, 17) := ⟨⟨by decide +kernel, by decide +kernel⟩, List.mem_of_getElem? (i := 177) (by decide +kernel), List.mem_of_getElem? (i := 709) (by decide +kernel), List.mem_of_getElem? (i := 710) (by decide +kernel)⟩
theorem lw_p18 : lw_okq (⟨"IsHeIn$Reader", "readSum", "()Z"⟩, 17) := ⟨⟨by decide +kernel, by decide +kernel⟩, List.mem_of_getElem? (i := 177) (by decide +kernel), List.mem_of_getElem? (i := 713) (by decide +kernel), List.mem_of_getElem? (i := 714) (by decide +kernel)⟩
theorem lw_p19 : lw_okq (⟨"IsHeIn$Reader", "readUnit", "()Z"⟩, 17) := ⟨⟨by decide +kernel, by decide +kernel⟩, List.mem_of_getElem? (i := 177) (by decide +kernel), List.mem_of_getElem? (i := 717) (by decide +kernel), List.mem_of_getElem? (i := 718) (by decide +kernel)⟩
theorem lw_p20 : lw_okq (⟨"IsHeIn$Reader", "emitIfAny", "(I)V"⟩, 17) := ⟨⟨by decide +kernel, by decide +kernel⟩, List.mem_of_getElem? (i := 177) (by decide +kernel), List.mem_of_getElem? (i := 729) (by decide +kernel), List.mem_of_getElem? (i := 730) (by decide +kernel)⟩
theorem lw_p21 : lw_okq (⟨"IsHeIn$Reader", "readPart", "()Z"⟩, 17) := ⟨⟨by decide +kernel, by decide +kernel⟩, List.mem_of_getElem? (i := 177) (by decide +kernel), List.mem_of_getElem? (i := 733) (by decide +kernel), List.mem_of_getElem? (i := 734) (by decide +kernel)⟩
theorem lw_p22 : lw_okq (⟨"IsHeIn$Reader", "readCondition", "()Z"⟩, 17) := ⟨⟨by decide +kernel, by decide +kernel⟩, List.mem_of_getElem? (i := 177) (by decide +kernel), List.mem_of_getElem? (i := 738) (by decide +kernel), List.mem_of_getElem? (i := 739) (by decide +kernel)⟩
theorem lw_p23 : lw_okq (⟨"IsHeIn$Reader", "readOpenings", "()Z"⟩, 17) := ⟨⟨by decide +kernel, by decide +kernel⟩, List.mem_of_getElem? (i := 177) (by decide +kernel), List.mem_of_getElem? (i := 742) (by decide +kernel), List.mem_of_getElem? (i := 743) (by decide +kernel)⟩
theorem lw_p24 : lw_okq (⟨"IsHeIn$Reader", "hold", "(I)V"⟩, 17) := ⟨⟨by decide +kernel, by decide +kernel⟩, List.mem_of_getElem? (i := 177) (by decide +kernel), List.mem_of_getElem? (i := 746) (by decide +kernel), List.mem_of_getElem? (i := 747) (by decide +kernel)⟩
theorem lw_p25 : lw_okq (⟨"IsHeIn$Reader", "stepOfComparison", "()I"⟩, 17) := ⟨⟨by decide +kernel, by decide +kernel⟩, List.mem_of_getElem? (i := 177) (by decide +kernel), List.mem_of_getElem? (i := 750) (by decide +kernel), List.mem_of_getElem? (i := 751) (by decide +kernel)⟩
theorem lw_p26 : lw_okq (⟨"IsHeIn$Reader", "readClosings", "()V"⟩, 17) := ⟨⟨by decide +kernel, by decide +kernel⟩, List.mem_of_getElem? (i := 177) (by decide +kernel), List.mem_of_getElem? (i := 754) (by decide +kernel), List.mem_of_getElem? (i := 755) (by decide +kernel)⟩
theorem lw_p27 : lw_okq (⟨"IsHeIn$Reader", "closeNots", "()V"⟩, 17) := ⟨⟨by decide +kernel, by decide +kernel⟩, List.mem_of_getElem? (i := 177) (by decide +kernel), List.mem_of_getElem? (i := 758) (by decide +kernel), List.mem_of_getElem? (i := 759) (by decide +kernel)⟩
theorem lw_p28 : lw_okq (⟨"IsHeIn$Reader", "lastWaiting", "()I"⟩, 17) := ⟨⟨by decide +kernel, by decide +kernel⟩, List.mem_of_getElem? (i := 177) (by decide +kernel), List.mem_of_getElem? (i := 762) (by decide +kernel), List.mem_of_getElem? (i := 763) (by decide +kernel)⟩
theorem lw_p29 : lw_okq (⟨"IsHeIn$Reader", "joinWhatWaits", "(Z)V"⟩, 17) := ⟨⟨by decide +kernel, by decide +kernel⟩, List.mem_of_getElem? (i := 177) (by decide +kernel), List.mem_of_getElem? (i := 767) (by decide +kernel), List.mem_of_getElem? (i := 768) (by decide +kernel)⟩
theorem lw_p30 : lw_okq (⟨"IsHeIn$Reader", "pass", "(I)Z"⟩, 17) := ⟨⟨by decide +kernel, by decide +kernel⟩, List.mem_of_getElem? (i := 177) (by decide +kernel), List.mem_of_getElem? (i := 771) (by decide +kernel), List.mem_of_getElem? (i := 772) (by decide +kernel)⟩
theorem lw_p31 : lw_okq (⟨"IsHeIn$Reader", "readSign", "()Z"⟩, 17) := ⟨⟨by decide +kernel, by decide +kernel⟩, List.mem_of_getElem? (i := 177) (by decide +kernel), List.mem_of_getElem? (i := 775) (by decide +kernel), List.mem_of_getElem? (i := 776) (by decide +kernel)⟩
def lw_privs_2 : List (MethodName × Nat) := [(⟨"IsHeIn$Reader", "readLaw", "()Z"⟩, 17), (⟨"IsHeIn$Reader", "refuse", "(I)Z"⟩, 17), (⟨"IsHeIn$Reader", "readSum", "()Z"⟩, 17), (⟨"IsHeIn$Reader", "readUnit", "()Z"⟩, 17), (⟨"IsHeIn$Reader", "emitIfAny", "(I)V"⟩, 17), (⟨"IsHeIn$Reader", "readPart", "()Z"⟩, 17), (⟨"IsHeIn$Reader", "readCondition", "()Z"⟩, 17), (⟨"IsHeIn$Reader", "readOpenings", "()Z"⟩, 17), (⟨"IsHeIn$Reader", "hold", "(I)V"⟩, 17), (⟨"IsHeIn$Reader", "stepOfComparison", "()I"⟩, 17), (⟨"IsHeIn$Reader", "readClosings", "()V"⟩, 17), (⟨"IsHeIn$Reader", "closeNots", "()V"⟩, 17), (⟨"IsHeIn$Reader", "lastWaiting", "()I"⟩, 17), (⟨"IsHeIn$Reader", "joinWhatWaits", "(Z)V"⟩, 17), (⟨"IsHeIn$Reader", "pass", "(I)Z"⟩, 17), (⟨"IsHeIn$Reader", "readSign", "()Z"⟩, 17)]
theorem lw_r2 : ∀ q ∈ lw_privs_2, lw_okq q := List.forall_mem_cons.mpr ⟨lw_p16, List.forall_mem_cons.mpr ⟨lw_p17, List.forall_mem_cons.mpr ⟨lw_p18, List.forall_mem_cons.mpr ⟨lw_p19, List.forall_mem_cons.mpr ⟨lw_p20, List.forall_mem_cons.mpr ⟨lw_p21, List.forall_mem_cons.mpr ⟨lw_p22, List.forall_mem_cons.mpr ⟨lw_p23, List.forall_mem_cons.mpr ⟨lw_p24, List.forall_mem_cons.mpr ⟨lw_p25, List.forall_mem_cons.mpr ⟨lw_p26, List.forall_mem_cons.mpr ⟨lw_p27, List.forall_mem_cons.mpr ⟨lw_p28, List.forall_mem_cons.mpr ⟨lw_p29, List.forall_mem_cons.mpr ⟨lw_p30, List.forall_mem_cons.mpr ⟨lw_p31, fun _ h => absurd h List.not_mem_nil⟩⟩⟩⟩⟩⟩⟩⟩⟩⟩⟩⟩⟩⟩⟩⟩
theorem lw_p32 : lw_okq (⟨"IsHeIn$Reader", "readHead", "(ILIsHeIn$Table;)Z"⟩, 17) := ⟨⟨by decide +kernel, by decide +kernel⟩, List.mem_of_getElem? (i := 177) (by decide +kernel), List.mem_of_getElem? (i := 779) (by decide +kernel), List.mem_of_getElem? (i := 780) (by decide +kernel)⟩
theorem lw_p33 : lw_okq (⟨"IsHeIn$Reader", "readNamed", "(IIILIsHeIn$Table;I)Z"⟩, 17) := ⟨⟨by decide +kernel, by decide +kernel⟩, List.mem_of_getElem? (i := 177) (by decide +kernel), List.mem_of_getElem? (i := 783) (by decide +kernel), List.mem_of_getElem? (i := 784) (by decide +kernel)⟩
theorem lw_p34 : lw_okq (⟨"IsHeIn$Reader", "readShift", "()Z"⟩, 17) := ⟨⟨by decide +kernel, by decide +kernel⟩, List.mem_of_getElem? (i := 177) (by decide +kernel), List.mem_of_getElem? (i := 787) (by decide +kernel), List.mem_of_getElem? (i := 788) (by decide +kernel)⟩
theorem lw_p35 : lw_okq (⟨"IsHeIn$Belief", "glanceAt", "(I)V"⟩, 5) := ⟨⟨by decide +kernel, by decide +kernel⟩, List.mem_of_getElem? (i := 276) (by decide +kernel), List.mem_of_getElem? (i := 841) (by decide +kernel), List.mem_of_getElem? (i := 842) (by decide +kernel)⟩
theorem lw_p36 : lw_okq (⟨"IsHeIn$Belief", "sureByGlance", "(I)I"⟩, 5) := ⟨⟨by decide +kernel, by decide +kernel⟩, List.mem_of_getElem? (i := 276) (by decide +kernel), List.mem_of_getElem? (i := 846) (by decide +kernel), List.mem_of_getElem? (i := 847) (by decide +kernel)⟩
theorem lw_p37 : lw_okq (⟨"IsHeIn$Belief", "sureAfter", "(IIZ)I"⟩, 5) := ⟨⟨by decide +kernel, by decide +kernel⟩, List.mem_of_getElem? (i := 276) (by decide +kernel), List.mem_of_getElem? (i := 853) (by decide +kernel), List.mem_of_getElem? (i := 854) (by decide +kernel)⟩
theorem lw_p38 : lw_okq (⟨"IsHeIn$Records", "clerkOfLastGoing", "(I)I"⟩, 1) := ⟨⟨by decide +kernel, by decide +kernel⟩, List.mem_of_getElem? (i := 319) (by decide +kernel), List.mem_of_getElem? (i := 902) (by decide +kernel), List.mem_of_getElem? (i := 903) (by decide +kernel)⟩
theorem lw_p39 : lw_okq (⟨"IsHeIn$Records", "hangsWrong", "(I)Z"⟩, 1) := ⟨⟨by decide +kernel, by decide +kernel⟩, List.mem_of_getElem? (i := 319) (by decide +kernel), List.mem_of_getElem? (i := 914) (by decide +kernel), List.mem_of_getElem? (i := 915) (by decide +kernel)⟩
theorem lw_p40 : lw_okq (⟨"IsHeIn", "lookAtTold", "(I)I"⟩, 11) := ⟨⟨by decide +kernel, by decide +kernel⟩, List.mem_of_getElem? (i := 21) (by decide +kernel), List.mem_of_getElem? (i := 959) (by decide +kernel), List.mem_of_getElem? (i := 960) (by decide +kernel)⟩
theorem lw_p41 : lw_okq (⟨"IsHeIn$Belief", "bestSign", "(I)I"⟩, 5) := ⟨⟨by decide +kernel, by decide +kernel⟩, List.mem_of_getElem? (i := 276) (by decide +kernel), List.mem_of_getElem? (i := 971) (by decide +kernel), List.mem_of_getElem? (i := 972) (by decide +kernel)⟩
theorem lw_p42 : lw_okq (⟨"IsHeIn$Belief", "surenessBy", "(II)J"⟩, 5) := ⟨⟨by decide +kernel, by decide +kernel⟩, List.mem_of_getElem? (i := 276) (by decide +kernel), List.mem_of_getElem? (i := 976) (by decide +kernel), List.mem_of_getElem? (i := 977) (by decide +kernel)⟩
theorem lw_p43 : lw_okq (⟨"IsHeIn$Belief", "chanceToSee", "(II)I"⟩, 5) := ⟨⟨by decide +kernel, by decide +kernel⟩, List.mem_of_getElem? (i := 276) (by decide +kernel), List.mem_of_getElem? (i := 980) (by decide +kernel), List.mem_of_getElem? (i := 981) (by decide +kernel)⟩
theorem lw_p44 : lw_okq (⟨"IsHeIn$Belief", "weighAll", "()V"⟩, 5) := ⟨⟨by decide +kernel, by decide +kernel⟩, List.mem_of_getElem? (i := 276) (by decide +kernel), List.mem_of_getElem? (i := 1025) (by decide +kernel), List.mem_of_getElem? (i := 1026) (by decide +kernel)⟩
theorem lw_p45 : lw_okq (⟨"IsHeIn$Belief", "countChances", "(I)V"⟩, 5) := ⟨⟨by decide +kernel, by decide +kernel⟩, List.mem_of_getElem? (i := 276) (by decide +kernel), List.mem_of_getElem? (i := 1033) (by decide +kernel), List.mem_of_getElem? (i := 1034) (by decide +kernel)⟩
theorem lw_p46 : lw_okq (⟨"IsHeIn$Belief", "countChance", "(I)V"⟩, 5) := ⟨⟨by decide +kernel, by decide +kernel⟩, List.mem_of_getElem? (i := 276) (by decide +kernel), List.mem_of_getElem? (i := 1037) (by decide +kernel), List.mem_of_getElem? (i := 1038) (by decide +kernel)⟩
theorem lw_p47 : lw_okq (⟨"IsHeIn$Belief", "chanceWithin", "(II)I"⟩, 5) := ⟨⟨by decide +kernel, by decide +kernel⟩, List.mem_of_getElem? (i := 276) (by decide +kernel), List.mem_of_getElem? (i := 1049) (by decide +kernel), List.mem_of_getElem? (i := 1050) (by decide +kernel)⟩
def lw_privs_3 : List (MethodName × Nat) := [(⟨"IsHeIn$Reader", "readHead", "(ILIsHeIn$Table;)Z"⟩, 17), (⟨"IsHeIn$Reader", "readNamed", "(IIILIsHeIn$Table;I)Z"⟩, 17), (⟨"IsHeIn$Reader", "readShift", "()Z"⟩, 17), (⟨"IsHeIn$Belief", "glanceAt", "(I)V"⟩, 5), (⟨"IsHeIn$Belief", "sureByGlance", "(I)I"⟩, 5), (⟨"IsHeIn$Belief", "sureAfter", "(IIZ)I"⟩, 5), (⟨"IsHeIn$Records", "clerkOfLastGoing", "(I)I"⟩, 1), (⟨"IsHeIn$Records", "hangsWrong", "(I)Z"⟩, 1), (⟨"IsHeIn", "lookAtTold", "(I)I"⟩, 11), (⟨"IsHeIn$Belief", "bestSign", "(I)I"⟩, 5), (⟨"IsHeIn$Belief", "surenessBy", "(II)J"⟩, 5), (⟨"IsHeIn$Belief", "chanceToSee", "(II)I"⟩, 5), (⟨"IsHeIn$Belief", "weighAll", "()V"⟩, 5), (⟨"IsHeIn$Belief", "countChances", "(I)V"⟩, 5), (⟨"IsHeIn$Belief", "countChance", "(I)V"⟩, 5), (⟨"IsHeIn$Belief", "chanceWithin", "(II)I"⟩, 5)]
theorem lw_r3 : ∀ q ∈ lw_privs_3, lw_okq q := List.forall_mem_cons.mpr ⟨lw_p32, List.forall_mem_cons.mpr ⟨lw_p33, List.forall_mem_cons.mpr ⟨lw_p34, List.forall_mem_cons.mpr ⟨lw_p35, List.forall_mem_cons.mpr ⟨lw_p36, List.forall_mem_cons.mpr ⟨lw_p37, List.forall_mem_cons.mpr ⟨lw_p38, List.forall_mem_cons.mpr ⟨lw_p39, List.forall_mem_cons.mpr ⟨lw_p40, List.forall_mem_cons.mpr ⟨lw_p41, List.forall_mem_cons.mpr ⟨lw_p42, List.forall_mem_cons.mpr ⟨lw_p43, List.forall_mem_cons.mpr ⟨lw_p44, List.forall_mem_cons.mpr ⟨lw_p45, List.forall_mem_cons.mpr ⟨lw_p46, List.forall_mem_cons.mpr ⟨lw_p47, fun _ h => absurd h List.not_mem_nil⟩⟩⟩⟩⟩⟩⟩⟩⟩⟩⟩⟩⟩⟩⟩⟩
theorem lw_p48 : lw_okq (⟨"IsHeIn$Foresight", "countGoings", "(I)V"⟩, 4) := ⟨⟨by decide +kernel, by decide +kernel⟩, List.mem_of_getElem? (i := 298) (by decide +kernel), List.mem_of_getElem? (i := 1154) (by decide +kernel), List.mem_of_getElem? (i := 1155) (by decide +kernel)⟩
theorem lw_p49 : lw_okq (⟨"IsHeIn$Foresight", "restFrom", "(IIII)I"⟩, 4) := ⟨⟨by decide +kernel, by decide +kernel⟩, List.mem_of_getElem? (i := 298) (by decide +kernel), List.mem_of_getElem? (i := 1159) (by decide +kernel), List.mem_of_getElem? (i := 1160) (by decide +kernel)⟩
theorem lw_p50 : lw_okq (⟨"IsHeIn$Rounds", "roomsBefore", "(I)I"⟩, 8) := ⟨⟨by decide +kernel, by decide +kernel⟩, List.mem_of_getElem? (i := 329) (by decide +kernel), List.mem_of_getElem? (i := 1201) (by decide +kernel), List.mem_of_getElem? (i := 1202) (by decide +kernel)⟩
theorem lw_p51 : lw_okq (⟨"IsHeIn$Rounds", "canBeDone", "(I)Z"⟩, 8) := ⟨⟨by decide +kernel, by decide +kernel⟩, List.mem_of_getElem? (i := 329) (by decide +kernel), List.mem_of_getElem? (i := 1214) (by decide +kernel), List.mem_of_getElem? (i := 1215) (by decide +kernel)⟩
theorem lw_p52 : lw_okq (⟨"IsHeIn$Rounds", "minutesDueBy", "(II)I"⟩, 8) := ⟨⟨by decide +kernel, by decide +kernel⟩, List.mem_of_getElem? (i := 329) (by decide +kernel), List.mem_of_getElem? (i := 1218) (by decide +kernel), List.mem_of_getElem? (i := 1219) (by decide +kernel)⟩
theorem lw_p53 : lw_okq (⟨"IsHeIn$Rounds", "isBetter", "(II)Z"⟩, 8) := ⟨⟨by decide +kernel, by decide +kernel⟩, List.mem_of_getElem? (i := 329) (by decide +kernel), List.mem_of_getElem? (i := 1222) (by decide +kernel), List.mem_of_getElem? (i := 1223) (by decide +kernel)⟩
theorem lw_p54 : lw_okq (⟨"IsHeIn$Rounds", "searchOn", "(IIIIJ)V"⟩, 8) := ⟨⟨by decide +kernel, by decide +kernel⟩, List.mem_of_getElem? (i := 329) (by decide +kernel), List.mem_of_getElem? (i := 1241) (by decide +kernel), List.mem_of_getElem? (i := 1242) (by decide +kernel)⟩
theorem lw_p55 : lw_okq (⟨"IsHeInModel", "forgets", "()V"⟩, 35) := ⟨⟨by decide +kernel, by decide +kernel⟩, List.mem_of_getElem? (i := 1249) (by decide +kernel), List.mem_of_getElem? (i := 1366) (by decide +kernel), List.mem_of_getElem? (i := 1367) (by decide +kernel)⟩
theorem lw_p56 : lw_okq (⟨"IsHeInModel", "isGuest", "(I)Z"⟩, 35) := ⟨⟨by decide +kernel, by decide +kernel⟩, List.mem_of_getElem? (i := 1249) (by decide +kernel), List.mem_of_getElem? (i := 1381) (by decide +kernel), List.mem_of_getElem? (i := 1382) (by decide +kernel)⟩
theorem lw_p57 : lw_okq (⟨"IsHeInModel", "next0", "()V"⟩, 35) := ⟨⟨by decide +kernel, by decide +kernel⟩, List.mem_of_getElem? (i := 1249) (by decide +kernel), List.mem_of_getElem? (i := 1397) (by decide +kernel), List.mem_of_getElem? (i := 1398) (by decide +kernel)⟩
theorem lw_p58 : lw_okq (⟨"IsHeInModel", "see", "(I)I"⟩, 35) := ⟨⟨by decide +kernel, by decide +kernel⟩, List.mem_of_getElem? (i := 1249) (by decide +kernel), List.mem_of_getElem? (i := 1401) (by decide +kernel), List.mem_of_getElem? (i := 1402) (by decide +kernel)⟩
theorem lw_p59 : lw_okq (⟨"IsHeInModel", "word", "()I"⟩, 35) := ⟨⟨by decide +kernel, by decide +kernel⟩, List.mem_of_getElem? (i := 1249) (by decide +kernel), List.mem_of_getElem? (i := 1408) (by decide +kernel), List.mem_of_getElem? (i := 1409) (by decide +kernel)⟩
theorem lw_p60 : lw_okq (⟨"IsHeInModel", "lawWord", "()I"⟩, 35) := ⟨⟨by decide +kernel, by decide +kernel⟩, List.mem_of_getElem? (i := 1249) (by decide +kernel), List.mem_of_getElem? (i := 1412) (by decide +kernel), List.mem_of_getElem? (i := 1413) (by decide +kernel)⟩
theorem lw_p61 : lw_okq (⟨"IsHeInModel", "is", "(Ljava/lang/String;)Z"⟩, 35) := ⟨⟨by decide +kernel, by decide +kernel⟩, List.mem_of_getElem? (i := 1249) (by decide +kernel), List.mem_of_getElem? (i := 1417) (by decide +kernel), List.mem_of_getElem? (i := 1418) (by decide +kernel)⟩
theorem lw_p62 : lw_okq (⟨"IsHeInModel", "asked", "()I"⟩, 35) := ⟨⟨by decide +kernel, by decide +kernel⟩, List.mem_of_getElem? (i := 1249) (by decide +kernel), List.mem_of_getElem? (i := 1426) (by decide +kernel), List.mem_of_getElem? (i := 1427) (by decide +kernel)⟩
theorem lw_p63 : lw_okq (⟨"IsHeInModel", "wordOfLaw", "()I"⟩, 35) := ⟨⟨by decide +kernel, by decide +kernel⟩, List.mem_of_getElem? (i := 1249) (by decide +kernel), List.mem_of_getElem? (i := 1439) (by decide +kernel), List.mem_of_getElem? (i := 1440) (by decide +kernel)⟩
def lw_privs_4 : List (MethodName × Nat) := [(⟨"IsHeIn$Foresight", "countGoings", "(I)V"⟩, 4), (⟨"IsHeIn$Foresight", "restFrom", "(IIII)I"⟩, 4), (⟨"IsHeIn$Rounds", "roomsBefore", "(I)I"⟩, 8), (⟨"IsHeIn$Rounds", "canBeDone", "(I)Z"⟩, 8), (⟨"IsHeIn$Rounds", "minutesDueBy", "(II)I"⟩, 8), (⟨"IsHeIn$Rounds", "isBetter", "(II)Z"⟩, 8), (⟨"IsHeIn$Rounds", "searchOn", "(IIIIJ)V"⟩, 8), (⟨"IsHeInModel", "forgets", "()V"⟩, 35), (⟨"IsHeInModel", "isGuest", "(I)Z"⟩, 35), (⟨"IsHeInModel", "next0", "()V"⟩, 35), (⟨"IsHeInModel", "see", "(I)I"⟩, 35), (⟨"IsHeInModel", "word", "()I"⟩, 35), (⟨"IsHeInModel", "lawWord", "()I"⟩, 35), (⟨"IsHeInModel", "is", "(Ljava/lang/String;)Z"⟩, 35), (⟨"IsHeInModel", "asked", "()I"⟩, 35), (⟨"IsHeInModel", "wordOfLaw", "()I"⟩, 35)]
theorem lw_r4 : ∀ q ∈ lw_privs_4, lw_okq q := List.forall_mem_cons.mpr ⟨lw_p48, List.forall_mem_cons.mpr ⟨lw_p49, List.forall_mem_cons.mpr ⟨lw_p50, List.forall_mem_cons.mpr ⟨lw_p51, List.forall_mem_cons.mpr ⟨lw_p52, List.forall_mem_cons.mpr ⟨lw_p53, List.forall_mem_cons.mpr ⟨lw_p54, List.forall_mem_cons.mpr ⟨lw_p55, List.forall_mem_cons.mpr ⟨lw_p56, List.forall_mem_cons.mpr ⟨lw_p57, List.forall_mem_cons.mpr ⟨lw_p58, List.forall_mem_cons.mpr ⟨lw_p59, List.forall_mem_cons.mpr ⟨lw_p60, List.forall_mem_cons.mpr ⟨lw_p61, List.forall_mem_cons.mpr ⟨lw_p62, List.forall_mem_cons.mpr ⟨lw_p63, fun _ h => absurd h List.not_mem_nil⟩⟩⟩⟩⟩⟩⟩⟩⟩⟩⟩⟩⟩⟩⟩⟩
theorem lw_p64 : lw_okq (⟨"IsHeInModel", "signWord", "()I"⟩, 35) := ⟨⟨by decide +kernel, by decide +kernel⟩, List.mem_of_getElem? (i := 1249) (by decide +kernel), List.mem_of_getElem? (i := 1449) (by decide +kernel), List.mem_of_getElem? (i := 1450) (by decide +kernel)⟩
theorem lw_p65 : lw_okq (⟨"IsHeInModel", "shiftWord", "()I"⟩, 35) := ⟨⟨by decide +kernel, by decide +kernel⟩, List.mem_of_getElem? (i := 1249) (by decide +kernel), List.mem_of_getElem? (i := 1456) (by decide +kernel), List.mem_of_getElem? (i := 1457) (by decide +kernel)⟩
theorem lw_p66 : lw_okq (⟨"IsHeInModel", "readsLaw", "()Z"⟩, 35) := ⟨⟨by decide +kernel, by decide +kernel⟩, List.mem_of_getElem? (i := 1249) (by decide +kernel), List.mem_of_getElem? (i := 1467) (by decide +kernel), List.mem_of_getElem? (i := 1468) (by decide +kernel)⟩
theorem lw_p67 : lw_okq (⟨"IsHeInModel", "aLine", "()Z"⟩, 35) := ⟨⟨by decide +kernel, by decide +kernel⟩, List.mem_of_getElem? (i := 1249) (by decide +kernel), List.mem_of_getElem? (i := 1471) (by decide +kernel), List.mem_of_getElem? (i := 1472) (by decide +kernel)⟩
theorem lw_p68 : lw_okq (⟨"IsHeInModel", "bad", "(I)Z"⟩, 35) := ⟨⟨by decide +kernel, by decide +kernel⟩, List.mem_of_getElem? (i := 1249) (by decide +kernel), List.mem_of_getElem? (i := 1475) (by decide +kernel), List.mem_of_getElem? (i := 1476) (by decide +kernel)⟩
theorem lw_p69 : lw_okq (⟨"IsHeInModel", "sumUp", "()Z"⟩, 35) := ⟨⟨by decide +kernel, by decide +kernel⟩, List.mem_of_getElem? (i := 1249) (by decide +kernel), List.mem_of_getElem? (i := 1479) (by decide +kernel), List.mem_of_getElem? (i := 1480) (by decide +kernel)⟩
theorem lw_p70 : lw_okq (⟨"IsHeInModel", "product", "()Z"⟩, 35) := ⟨⟨by decide +kernel, by decide +kernel⟩, List.mem_of_getElem? (i := 1249) (by decide +kernel), List.mem_of_getElem? (i := 1483) (by decide +kernel), List.mem_of_getElem? (i := 1484) (by decide +kernel)⟩
theorem lw_p71 : lw_okq (⟨"IsHeInModel", "unit", "()Z"⟩, 35) := ⟨⟨by decide +kernel, by decide +kernel⟩, List.mem_of_getElem? (i := 1249) (by decide +kernel), List.mem_of_getElem? (i := 1487) (by decide +kernel), List.mem_of_getElem? (i := 1488) (by decide +kernel)⟩
theorem lw_p72 : lw_okq (⟨"IsHeInModel", "lay", "(II)V"⟩, 35) := ⟨⟨by decide +kernel, by decide +kernel⟩, List.mem_of_getElem? (i := 1249) (by decide +kernel), List.mem_of_getElem? (i := 1491) (by decide +kernel), List.mem_of_getElem? (i := 1492) (by decide +kernel)⟩
theorem lw_p73 : lw_okq (⟨"IsHeInModel", "any", "()Z"⟩, 35) := ⟨⟨by decide +kernel, by decide +kernel⟩, List.mem_of_getElem? (i := 1249) (by decide +kernel), List.mem_of_getElem? (i := 1495) (by decide +kernel), List.mem_of_getElem? (i := 1496) (by decide +kernel)⟩
theorem lw_p74 : lw_okq (⟨"IsHeInModel", "every", "()Z"⟩, 35) := ⟨⟨by decide +kernel, by decide +kernel⟩, List.mem_of_getElem? (i := 1249) (by decide +kernel), List.mem_of_getElem? (i := 1499) (by decide +kernel), List.mem_of_getElem? (i := 1500) (by decide +kernel)⟩
theorem lw_p75 : lw_okq (⟨"IsHeInModel", "oneTest", "()Z"⟩, 35) := ⟨⟨by decide +kernel, by decide +kernel⟩, List.mem_of_getElem? (i := 1249) (by decide +kernel), List.mem_of_getElem? (i := 1503) (by decide +kernel), List.mem_of_getElem? (i := 1504) (by decide +kernel)⟩
theorem lw_p76 : lw_okq (⟨"IsHeInModel", "opens", "()Z"⟩, 35) := ⟨⟨by decide +kernel, by decide +kernel⟩, List.mem_of_getElem? (i := 1249) (by decide +kernel), List.mem_of_getElem? (i := 1507) (by decide +kernel), List.mem_of_getElem? (i := 1508) (by decide +kernel)⟩
theorem lw_p77 : lw_okq (⟨"IsHeInModel", "need", "(I)Z"⟩, 35) := ⟨⟨by decide +kernel, by decide +kernel⟩, List.mem_of_getElem? (i := 1249) (by decide +kernel), List.mem_of_getElem? (i := 1511) (by decide +kernel), List.mem_of_getElem? (i := 1512) (by decide +kernel)⟩
theorem lw_p78 : lw_okq (⟨"IsHeInModel", "readsRows", "()Z"⟩, 35) := ⟨⟨by decide +kernel, by decide +kernel⟩, List.mem_of_getElem? (i := 1249) (by decide +kernel), List.mem_of_getElem? (i := 1515) (by decide +kernel), List.mem_of_getElem? (i := 1516) (by decide +kernel)⟩
theorem lw_p79 : lw_okq (⟨"IsHeInModel", "aSign", "()Z"⟩, 35) := ⟨⟨by decide +kernel, by decide +kernel⟩, List.mem_of_getElem? (i := 1249) (by decide +kernel), List.mem_of_getElem? (i := 1519) (by decide +kernel), List.mem_of_getElem? (i := 1520) (by decide +kernel)⟩
def lw_privs_5 : List (MethodName × Nat) := [(⟨"IsHeInModel", "signWord", "()I"⟩, 35), (⟨"IsHeInModel", "shiftWord", "()I"⟩, 35), (⟨"IsHeInModel", "readsLaw", "()Z"⟩, 35), (⟨"IsHeInModel", "aLine", "()Z"⟩, 35), (⟨"IsHeInModel", "bad", "(I)Z"⟩, 35), (⟨"IsHeInModel", "sumUp", "()Z"⟩, 35), (⟨"IsHeInModel", "product", "()Z"⟩, 35), (⟨"IsHeInModel", "unit", "()Z"⟩, 35), (⟨"IsHeInModel", "lay", "(II)V"⟩, 35), (⟨"IsHeInModel", "any", "()Z"⟩, 35), (⟨"IsHeInModel", "every", "()Z"⟩, 35), (⟨"IsHeInModel", "oneTest", "()Z"⟩, 35), (⟨"IsHeInModel", "opens", "()Z"⟩, 35), (⟨"IsHeInModel", "need", "(I)Z"⟩, 35), (⟨"IsHeInModel", "readsRows", "()Z"⟩, 35), (⟨"IsHeInModel", "aSign", "()Z"⟩, 35)]
theorem lw_r5 : ∀ q ∈ lw_privs_5, lw_okq q := List.forall_mem_cons.mpr ⟨lw_p64, List.forall_mem_cons.mpr ⟨lw_p65, List.forall_mem_cons.mpr ⟨lw_p66, List.forall_mem_cons.mpr ⟨lw_p67, List.forall_mem_cons.mpr ⟨lw_p68, List.forall_mem_cons.mpr ⟨lw_p69, List.forall_mem_cons.mpr ⟨lw_p70, List.forall_mem_cons.mpr ⟨lw_p71, List.forall_mem_cons.mpr ⟨lw_p72, List.forall_mem_cons.mpr ⟨lw_p73, List.forall_mem_cons.mpr ⟨lw_p74, List.forall_mem_cons.mpr ⟨lw_p75, List.forall_mem_cons.mpr ⟨lw_p76, List.forall_mem_cons.mpr ⟨lw_p77, List.forall_mem_cons.mpr ⟨lw_p78, List.forall_mem_cons.mpr ⟨lw_p79, fun _ h => absurd h List.not_mem_nil⟩⟩⟩⟩⟩⟩⟩⟩⟩⟩⟩⟩⟩⟩⟩⟩
theorem lw_p80 : lw_okq (⟨"IsHeInModel", "told", "(IIII)Z"⟩, 35) := ⟨⟨by decide +kernel, by decide +kernel⟩, List.mem_of_getElem? (i := 1249) (by decide +kernel), List.mem_of_getElem? (i := 1523) (by decide +kernel), List.mem_of_getElem? (i := 1524) (by decide +kernel)⟩
theorem lw_p81 : lw_okq (⟨"IsHeInModel", "number", "(II)Z"⟩, 35) := ⟨⟨by decide +kernel, by decide +kernel⟩, List.mem_of_getElem? (i := 1249) (by decide +kernel), List.mem_of_getElem? (i := 1527) (by decide +kernel), List.mem_of_getElem? (i := 1528) (by decide +kernel)⟩
theorem lw_p82 : lw_okq (⟨"IsHeInModel", "aShift", "()Z"⟩, 35) := ⟨⟨by decide +kernel, by decide +kernel⟩, List.mem_of_getElem? (i := 1249) (by decide +kernel), List.mem_of_getElem? (i := 1531) (by decide +kernel), List.mem_of_getElem? (i := 1532) (by decide +kernel)⟩
theorem lw_p83 : lw_okq (⟨"IsHeInModel", "putsLaw", "()I"⟩, 35) := ⟨⟨by decide +kernel, by decide +kernel⟩, List.mem_of_getElem? (i := 1249) (by decide +kernel), List.mem_of_getElem? (i := 1535) (by decide +kernel), List.mem_of_getElem? (i := 1536) (by decide +kernel)⟩
theorem lw_p84 : lw_okq (⟨"IsHeInModel", "putsSigns", "()I"⟩, 35) := ⟨⟨by decide +kernel, by decide +kernel⟩, List.mem_of_getElem? (i := 1249) (by decide +kernel), List.mem_of_getElem? (i := 1539) (by decide +kernel), List.mem_of_getElem? (i := 1540) (by decide +kernel)⟩
theorem lw_p85 : lw_okq (⟨"IsHeInModel", "putsShifts", "()I"⟩, 35) := ⟨⟨by decide +kernel, by decide +kernel⟩, List.mem_of_getElem? (i := 1249) (by decide +kernel), List.mem_of_getElem? (i := 1543) (by decide +kernel), List.mem_of_getElem? (i := 1544) (by decide +kernel)⟩
theorem lw_p86 : lw_okq (⟨"IsHeInModel", "keeps", "()V"⟩, 35) := ⟨⟨by decide +kernel, by decide +kernel⟩, List.mem_of_getElem? (i := 1249) (by decide +kernel), List.mem_of_getElem? (i := 1559) (by decide +kernel), List.mem_of_getElem? (i := 1560) (by decide +kernel)⟩
theorem lw_p87 : lw_okq (⟨"IsHeInModel", "anHour", "()I"⟩, 35) := ⟨⟨by decide +kernel, by decide +kernel⟩, List.mem_of_getElem? (i := 1249) (by decide +kernel), List.mem_of_getElem? (i := 1563) (by decide +kernel), List.mem_of_getElem? (i := 1564) (by decide +kernel)⟩
theorem lw_p88 : lw_okq (⟨"IsHeInModel", "isMoved", "(I)Z"⟩, 35) := ⟨⟨by decide +kernel, by decide +kernel⟩, List.mem_of_getElem? (i := 1249) (by decide +kernel), List.mem_of_getElem? (i := 1567) (by decide +kernel), List.mem_of_getElem? (i := 1568) (by decide +kernel)⟩
theorem lw_p89 : lw_okq (⟨"IsHeInModel", "saysNow", "(II)I"⟩, 35) := ⟨⟨by decide +kernel, by decide +kernel⟩, List.mem_of_getElem? (i := 1249) (by decide +kernel), List.mem_of_getElem? (i := 1571) (by decide +kernel), List.mem_of_getElem? (i := 1572) (by decide +kernel)⟩
theorem lw_p90 : lw_okq (⟨"IsHeInModel", "saysIn", "(IIIII)I"⟩, 35) := ⟨⟨by decide +kernel, by decide +kernel⟩, List.mem_of_getElem? (i := 1249) (by decide +kernel), List.mem_of_getElem? (i := 1575) (by decide +kernel), List.mem_of_getElem? (i := 1576) (by decide +kernel)⟩
theorem lw_p91 : lw_okq (⟨"IsHeInModel", "isOnBoard", "(I)Z"⟩, 35) := ⟨⟨by decide +kernel, by decide +kernel⟩, List.mem_of_getElem? (i := 1249) (by decide +kernel), List.mem_of_getElem? (i := 1579) (by decide +kernel), List.mem_of_getElem? (i := 1580) (by decide +kernel)⟩
theorem lw_p92 : lw_okq (⟨"IsHeInModel", "isSo", "(I)Z"⟩, 35) := ⟨⟨by decide +kernel, by decide +kernel⟩, List.mem_of_getElem? (i := 1249) (by decide +kernel), List.mem_of_getElem? (i := 1583) (by decide +kernel), List.mem_of_getElem? (i := 1584) (by decide +kernel)⟩
theorem lw_p93 : lw_okq (⟨"IsHeInModel", "comesTo", "(III)I"⟩, 35) := ⟨⟨by decide +kernel, by decide +kernel⟩, List.mem_of_getElem? (i := 1249) (by decide +kernel), List.mem_of_getElem? (i := 1587) (by decide +kernel), List.mem_of_getElem? (i := 1588) (by decide +kernel)⟩
theorem lw_p94 : lw_okq (⟨"IsHeInModel", "without", "(II)I"⟩, 35) := ⟨⟨by decide +kernel, by decide +kernel⟩, List.mem_of_getElem? (i := 1249) (by decide +kernel), List.mem_of_getElem? (i := 1600) (by decide +kernel), List.mem_of_getElem? (i := 1601) (by decide +kernel)⟩
theorem lw_p95 : lw_okq (⟨"IsHeInModel", "draw", "(I)I"⟩, 35) := ⟨⟨by decide +kernel, by decide +kernel⟩, List.mem_of_getElem? (i := 1249) (by decide +kernel), List.mem_of_getElem? (i := 1604) (by decide +kernel), List.mem_of_getElem? (i := 1605) (by decide +kernel)⟩
def lw_privs_6 : List (MethodName × Nat) := [(⟨"IsHeInModel", "told", "(IIII)Z"⟩, 35), (⟨"IsHeInModel", "number", "(II)Z"⟩, 35), (⟨"IsHeInModel", "aShift", "()Z"⟩, 35), (⟨"IsHeInModel", "putsLaw", "()I"⟩, 35), (⟨"IsHeInModel", "putsSigns", "()I"⟩, 35), (⟨"IsHeInModel", "putsShifts", "()I"⟩, 35), (⟨"IsHeInModel", "keeps", "()V"⟩, 35), (⟨"IsHeInModel", "anHour", "()I"⟩, 35), (⟨"IsHeInModel", "isMoved", "(I)Z"⟩, 35), (⟨"IsHeInModel", "saysNow", "(II)I"⟩, 35), (⟨"IsHeInModel", "saysIn", "(IIIII)I"⟩, 35), (⟨"IsHeInModel", "isOnBoard", "(I)Z"⟩, 35), (⟨"IsHeInModel", "isSo", "(I)Z"⟩, 35), (⟨"IsHeInModel", "comesTo", "(III)I"⟩, 35), (⟨"IsHeInModel", "without", "(II)I"⟩, 35), (⟨"IsHeInModel", "draw", "(I)I"⟩, 35)]
theorem lw_r6 : ∀ q ∈ lw_privs_6, lw_okq q := List.forall_mem_cons.mpr ⟨lw_p80, List.forall_mem_cons.mpr ⟨lw_p81, List.forall_mem_cons.mpr ⟨lw_p82, List.forall_mem_cons.mpr ⟨lw_p83, List.forall_mem_cons.mpr ⟨lw_p84, List.forall_mem_cons.mpr ⟨lw_p85, List.forall_mem_cons.mpr ⟨lw_p86, List.forall_mem_cons.mpr ⟨lw_p87, List.forall_mem_cons.mpr ⟨lw_p88, List.forall_mem_cons.mpr ⟨lw_p89, List.forall_mem_cons.mpr ⟨lw_p90, List.forall_mem_cons.mpr ⟨lw_p91, List.forall_mem_cons.mpr ⟨lw_p92, List.forall_mem_cons.mpr ⟨lw_p93, List.forall_mem_cons.mpr ⟨lw_p94, List.forall_mem_cons.mpr ⟨lw_p95, fun _ h => absurd h List.not_mem_nil⟩⟩⟩⟩⟩⟩⟩⟩⟩⟩⟩⟩⟩⟩⟩⟩
theorem lw_p96 : lw_okq (⟨"IsHeInModel", "hangsOn", "(III)I"⟩, 35) := ⟨⟨by decide +kernel, by decide +kernel⟩, List.mem_of_getElem? (i := 1249) (by decide +kernel), List.mem_of_getElem? (i := 1610) (by decide +kernel), List.mem_of_getElem? (i := 1611) (by decide +kernel)⟩
theorem lw_p97 : lw_okq (⟨"IsHeInModel", "keyOn", "(I)I"⟩, 35) := ⟨⟨by decide +kernel, by decide +kernel⟩, List.mem_of_getElem? (i := 1249) (by decide +kernel), List.mem_of_getElem? (i := 1614) (by decide +kernel), List.mem_of_getElem? (i := 1615) (by decide +kernel)⟩
theorem lw_p98 : lw_okq (⟨"IsHeInModel", "clerkAt", "(I)I"⟩, 35) := ⟨⟨by decide +kernel, by decide +kernel⟩, List.mem_of_getElem? (i := 1249) (by decide +kernel), List.mem_of_getElem? (i := 1618) (by decide +kernel), List.mem_of_getElem? (i := 1619) (by decide +kernel)⟩
theorem lw_p99 : lw_okq (⟨"IsHeInModel", "notes", "(IIII)V"⟩, 35) := ⟨⟨by decide +kernel, by decide +kernel⟩, List.mem_of_getElem? (i := 1249) (by decide +kernel), List.mem_of_getElem? (i := 1622) (by decide +kernel), List.mem_of_getElem? (i := 1623) (by decide +kernel)⟩
theorem lw_p100 : lw_okq (⟨"IsHeInModel", "isSign", "(I)Z"⟩, 35) := ⟨⟨by decide +kernel, by decide +kernel⟩, List.mem_of_getElem? (i := 1249) (by decide +kernel), List.mem_of_getElem? (i := 1634) (by decide +kernel), List.mem_of_getElem? (i := 1635) (by decide +kernel)⟩
theorem lw_p101 : lw_okq (⟨"IsHeInModel", "sureOf", "(I)J"⟩, 35) := ⟨⟨by decide +kernel, by decide +kernel⟩, List.mem_of_getElem? (i := 1249) (by decide +kernel), List.mem_of_getElem? (i := 1642) (by decide +kernel), List.mem_of_getElem? (i := 1643) (by decide +kernel)⟩
theorem lw_p102 : lw_okq (⟨"IsHeInModel", "bySign", "(JII)J"⟩, 35) := ⟨⟨by decide +kernel, by decide +kernel⟩, List.mem_of_getElem? (i := 1249) (by decide +kernel), List.mem_of_getElem? (i := 1646) (by decide +kernel), List.mem_of_getElem? (i := 1647) (by decide +kernel)⟩
theorem lw_p103 : lw_okq (⟨"IsHeInModel", "byA", "(JJJ)J"⟩, 35) := ⟨⟨by decide +kernel, by decide +kernel⟩, List.mem_of_getElem? (i := 1249) (by decide +kernel), List.mem_of_getElem? (i := 1650) (by decide +kernel), List.mem_of_getElem? (i := 1651) (by decide +kernel)⟩
theorem lw_p104 : lw_okq (⟨"IsHeInModel", "lookedAt", "(I)I"⟩, 35) := ⟨⟨by decide +kernel, by decide +kernel⟩, List.mem_of_getElem? (i := 1249) (by decide +kernel), List.mem_of_getElem? (i := 1655) (by decide +kernel), List.mem_of_getElem? (i := 1656) (by decide +kernel)⟩
theorem lw_p105 : lw_okq (⟨"IsHeInModel", "nextOf", "(JI)I"⟩, 35) := ⟨⟨by decide +kernel, by decide +kernel⟩, List.mem_of_getElem? (i := 1249) (by decide +kernel), List.mem_of_getElem? (i := 1659) (by decide +kernel), List.mem_of_getElem? (i := 1660) (by decide +kernel)⟩
theorem lw_p106 : lw_okq (⟨"IsHeInModel", "worthOf", "(JI)J"⟩, 35) := ⟨⟨by decide +kernel, by decide +kernel⟩, List.mem_of_getElem? (i := 1249) (by decide +kernel), List.mem_of_getElem? (i := 1664) (by decide +kernel), List.mem_of_getElem? (i := 1665) (by decide +kernel)⟩
theorem lw_p107 : lw_okq (⟨"IsHeInModel", "seeing", "(JI)J"⟩, 35) := ⟨⟨by decide +kernel, by decide +kernel⟩, List.mem_of_getElem? (i := 1249) (by decide +kernel), List.mem_of_getElem? (i := 1668) (by decide +kernel), List.mem_of_getElem? (i := 1669) (by decide +kernel)⟩
theorem lw_p108 : lw_okq (⟨"IsHeInModel", "laysChances", "()V"⟩, 35) := ⟨⟨by decide +kernel, by decide +kernel⟩, List.mem_of_getElem? (i := 1249) (by decide +kernel), List.mem_of_getElem? (i := 1705) (by decide +kernel), List.mem_of_getElem? (i := 1706) (by decide +kernel)⟩
theorem lw_p109 : lw_okq (⟨"IsHeInModel", "tagCostOf", "(III)I"⟩, 35) := ⟨⟨by decide +kernel, by decide +kernel⟩, List.mem_of_getElem? (i := 1249) (by decide +kernel), List.mem_of_getElem? (i := 1713) (by decide +kernel), List.mem_of_getElem? (i := 1714) (by decide +kernel)⟩
theorem lw_p110 : lw_okq (⟨"IsHeInModel", "longFrom", "(IJ)I"⟩, 35) := ⟨⟨by decide +kernel, by decide +kernel⟩, List.mem_of_getElem? (i := 1249) (by decide +kernel), List.mem_of_getElem? (i := 1725) (by decide +kernel), List.mem_of_getElem? (i := 1726) (by decide +kernel)⟩
theorem lw_p111 : lw_okq (⟨"IsHeInModel", "laysOthers", "(I)V"⟩, 35) := ⟨⟨by decide +kernel, by decide +kernel⟩, List.mem_of_getElem? (i := 1249) (by decide +kernel), List.mem_of_getElem? (i := 1733) (by decide +kernel), List.mem_of_getElem? (i := 1734) (by decide +kernel)⟩
def lw_privs_7 : List (MethodName × Nat) := [(⟨"IsHeInModel", "hangsOn", "(III)I"⟩, 35), (⟨"IsHeInModel", "keyOn", "(I)I"⟩, 35), (⟨"IsHeInModel", "clerkAt", "(I)I"⟩, 35), (⟨"IsHeInModel", "notes", "(IIII)V"⟩, 35), (⟨"IsHeInModel", "isSign", "(I)Z"⟩, 35), (⟨"IsHeInModel", "sureOf", "(I)J"⟩, 35), (⟨"IsHeInModel", "bySign", "(JII)J"⟩, 35), (⟨"IsHeInModel", "byA", "(JJJ)J"⟩, 35), (⟨"IsHeInModel", "lookedAt", "(I)I"⟩, 35), (⟨"IsHeInModel", "nextOf", "(JI)I"⟩, 35), (⟨"IsHeInModel", "worthOf", "(JI)J"⟩, 35), (⟨"IsHeInModel", "seeing", "(JI)J"⟩, 35), (⟨"IsHeInModel", "laysChances", "()V"⟩, 35), (⟨"IsHeInModel", "tagCostOf", "(III)I"⟩, 35), (⟨"IsHeInModel", "longFrom", "(IJ)I"⟩, 35), (⟨"IsHeInModel", "laysOthers", "(I)V"⟩, 35)]
theorem lw_r7 : ∀ q ∈ lw_privs_7, lw_okq q := List.forall_mem_cons.mpr ⟨lw_p96, List.forall_mem_cons.mpr ⟨lw_p97, List.forall_mem_cons.mpr ⟨lw_p98, List.forall_mem_cons.mpr ⟨lw_p99, List.forall_mem_cons.mpr ⟨lw_p100, List.forall_mem_cons.mpr ⟨lw_p101, List.forall_mem_cons.mpr ⟨lw_p102, List.forall_mem_cons.mpr ⟨lw_p103, List.forall_mem_cons.mpr ⟨lw_p104, List.forall_mem_cons.mpr ⟨lw_p105, List.forall_mem_cons.mpr ⟨lw_p106, List.forall_mem_cons.mpr ⟨lw_p107, List.forall_mem_cons.mpr ⟨lw_p108, List.forall_mem_cons.mpr ⟨lw_p109, List.forall_mem_cons.mpr ⟨lw_p110, List.forall_mem_cons.mpr ⟨lw_p111, fun _ h => absurd h List.not_mem_nil⟩⟩⟩⟩⟩⟩⟩⟩⟩⟩⟩⟩⟩⟩⟩⟩
theorem lw_p112 : lw_okq (⟨"IsHeInModel", "movesIn", "(I)I"⟩, 35) := ⟨⟨by decide +kernel, by decide +kernel⟩, List.mem_of_getElem? (i := 1249) (by decide +kernel), List.mem_of_getElem? (i := 1745) (by decide +kernel), List.mem_of_getElem? (i := 1746) (by decide +kernel)⟩
theorem lw_p113 : lw_okq (⟨"IsHeInModel", "isKnockedAhead", "(II)Z"⟩, 35) := ⟨⟨by decide +kernel, by decide +kernel⟩, List.mem_of_getElem? (i := 1249) (by decide +kernel), List.mem_of_getElem? (i := 1769) (by decide +kernel), List.mem_of_getElem? (i := 1770) (by decide +kernel)⟩
theorem lw_p114 : lw_okq (⟨"IsHeInModel", "ofRoom", "(II)I"⟩, 35) := ⟨⟨by decide +kernel, by decide +kernel⟩, List.mem_of_getElem? (i := 1249) (by decide +kernel), List.mem_of_getElem? (i := 1773) (by decide +kernel), List.mem_of_getElem? (i := 1774) (by decide +kernel)⟩
theorem lw_p115 : lw_okq (⟨"IsHeInModel", "canDo", "(I)Z"⟩, 35) := ⟨⟨by decide +kernel, by decide +kernel⟩, List.mem_of_getElem? (i := 1249) (by decide +kernel), List.mem_of_getElem? (i := 1785) (by decide +kernel), List.mem_of_getElem? (i := 1786) (by decide +kernel)⟩
theorem lw_p116 : lw_okq (⟨"IsHeInModel", "worthOfSet", "(I)I"⟩, 35) := ⟨⟨by decide +kernel, by decide +kernel⟩, List.mem_of_getElem? (i := 1249) (by decide +kernel), List.mem_of_getElem? (i := 1789) (by decide +kernel), List.mem_of_getElem? (i := 1790) (by decide +kernel)⟩
theorem lw_p117 : lw_okq (⟨"IsHeInModel", "swappedSet", "()I"⟩, 35) := ⟨⟨by decide +kernel, by decide +kernel⟩, List.mem_of_getElem? (i := 1249) (by decide +kernel), List.mem_of_getElem? (i := 1804) (by decide +kernel), List.mem_of_getElem? (i := 1805) (by decide +kernel)⟩
theorem lw_p118 : lw_okq (⟨"IsHeInModel", "ringMany", "()I"⟩, 35) := ⟨⟨by decide +kernel, by decide +kernel⟩, List.mem_of_getElem? (i := 1249) (by decide +kernel), List.mem_of_getElem? (i := 1808) (by decide +kernel), List.mem_of_getElem? (i := 1809) (by decide +kernel)⟩
theorem lw_p119 : lw_okq (⟨"IsHeInModel", "leadsRing", "(I)Z"⟩, 35) := ⟨⟨by decide +kernel, by decide +kernel⟩, List.mem_of_getElem? (i := 1249) (by decide +kernel), List.mem_of_getElem? (i := 1812) (by decide +kernel), List.mem_of_getElem? (i := 1813) (by decide +kernel)⟩
theorem lw_p120 : lw_okq (⟨"IsHeInModel", "laysFloors", "()V"⟩, 35) := ⟨⟨by decide +kernel, by decide +kernel⟩, List.mem_of_getElem? (i := 1249) (by decide +kernel), List.mem_of_getElem? (i := 1820) (by decide +kernel), List.mem_of_getElem? (i := 1821) (by decide +kernel)⟩
theorem lw_p121 : lw_okq (⟨"IsHeInModel", "searches", "(IIIJ)V"⟩, 35) := ⟨⟨by decide +kernel, by decide +kernel⟩, List.mem_of_getElem? (i := 1249) (by decide +kernel), List.mem_of_getElem? (i := 1824) (by decide +kernel), List.mem_of_getElem? (i := 1825) (by decide +kernel)⟩
theorem lw_p122 : lw_okq (⟨"IsHeInModel", "laysDoors", "()V"⟩, 35) := ⟨⟨by decide +kernel, by decide +kernel⟩, List.mem_of_getElem? (i := 1249) (by decide +kernel), List.mem_of_getElem? (i := 1832) (by decide +kernel), List.mem_of_getElem? (i := 1833) (by decide +kernel)⟩
theorem lw_p123 : lw_okq (⟨"IsHeInModel", "mostBy", "(III)I"⟩, 35) := ⟨⟨by decide +kernel, by decide +kernel⟩, List.mem_of_getElem? (i := 1249) (by decide +kernel), List.mem_of_getElem? (i := 1836) (by decide +kernel), List.mem_of_getElem? (i := 1837) (by decide +kernel)⟩
theorem lw_p124 : lw_okq (⟨"IsHeInModel", "lastSawBy", "(I)I"⟩, 35) := ⟨⟨by decide +kernel, by decide +kernel⟩, List.mem_of_getElem? (i := 1249) (by decide +kernel), List.mem_of_getElem? (i := 1844) (by decide +kernel), List.mem_of_getElem? (i := 1845) (by decide +kernel)⟩
theorem lw_p125 : lw_okq (⟨"IsHeInModel", "outs", "()I"⟩, 35) := ⟨⟨by decide +kernel, by decide +kernel⟩, List.mem_of_getElem? (i := 1249) (by decide +kernel), List.mem_of_getElem? (i := 1889) (by decide +kernel), List.mem_of_getElem? (i := 1890) (by decide +kernel)⟩
theorem lw_p126 : lw_okq (⟨"IsHeInModel", "hooksWithKeys", "()I"⟩, 35) := ⟨⟨by decide +kernel, by decide +kernel⟩, List.mem_of_getElem? (i := 1249) (by decide +kernel), List.mem_of_getElem? (i := 1893) (by decide +kernel), List.mem_of_getElem? (i := 1894) (by decide +kernel)⟩
def lw_privs_8 : List (MethodName × Nat) := [(⟨"IsHeInModel", "movesIn", "(I)I"⟩, 35), (⟨"IsHeInModel", "isKnockedAhead", "(II)Z"⟩, 35), (⟨"IsHeInModel", "ofRoom", "(II)I"⟩, 35), (⟨"IsHeInModel", "canDo", "(I)Z"⟩, 35), (⟨"IsHeInModel", "worthOfSet", "(I)I"⟩, 35), (⟨"IsHeInModel", "swappedSet", "()I"⟩, 35), (⟨"IsHeInModel", "ringMany", "()I"⟩, 35), (⟨"IsHeInModel", "leadsRing", "(I)Z"⟩, 35), (⟨"IsHeInModel", "laysFloors", "()V"⟩, 35), (⟨"IsHeInModel", "searches", "(IIIJ)V"⟩, 35), (⟨"IsHeInModel", "laysDoors", "()V"⟩, 35), (⟨"IsHeInModel", "mostBy", "(III)I"⟩, 35), (⟨"IsHeInModel", "lastSawBy", "(I)I"⟩, 35), (⟨"IsHeInModel", "outs", "()I"⟩, 35), (⟨"IsHeInModel", "hooksWithKeys", "()I"⟩, 35)]
theorem lw_r8 : ∀ q ∈ lw_privs_8, lw_okq q := List.forall_mem_cons.mpr ⟨lw_p112, List.forall_mem_cons.mpr ⟨lw_p113, List.forall_mem_cons.mpr ⟨lw_p114, List.forall_mem_cons.mpr ⟨lw_p115, List.forall_mem_cons.mpr ⟨lw_p116, List.forall_mem_cons.mpr ⟨lw_p117, List.forall_mem_cons.mpr ⟨lw_p118, List.forall_mem_cons.mpr ⟨lw_p119, List.forall_mem_cons.mpr ⟨lw_p120, List.forall_mem_cons.mpr ⟨lw_p121, List.forall_mem_cons.mpr ⟨lw_p122, List.forall_mem_cons.mpr ⟨lw_p123, List.forall_mem_cons.mpr ⟨lw_p124, List.forall_mem_cons.mpr ⟨lw_p125, List.forall_mem_cons.mpr ⟨lw_p126, fun _ h => absurd h List.not_mem_nil⟩⟩⟩⟩⟩⟩⟩⟩⟩⟩⟩⟩⟩⟩⟩
def lw_privs : List (MethodName × Nat) := lw_privs_1 ++ (lw_privs_2 ++ (lw_privs_3 ++ (lw_privs_4 ++ (lw_privs_5 ++ (lw_privs_6 ++ (lw_privs_7 ++ (lw_privs_8)))))))
def lw_tbl : List Cond := k2_sels lw_privs ++ tables_1
theorem lw_privs_ok : ∀ q ∈ lw_privs, lw_okq q := by
  show ∀ q ∈ lw_privs_1 ++ (lw_privs_2 ++ (lw_privs_3 ++ (lw_privs_4 ++ (lw_privs_5 ++ (lw_privs_6 ++ (lw_privs_7 ++ (lw_privs_8))))))), lw_okq q
  exact List.forall_mem_append.mpr ⟨lw_r1, List.forall_mem_append.mpr ⟨lw_r2, List.forall_mem_append.mpr ⟨lw_r3, List.forall_mem_append.mpr ⟨lw_r4, List.forall_mem_append.mpr ⟨lw_r5, List.forall_mem_append.mpr ⟨lw_r6, List.forall_mem_append.mpr ⟨lw_r7, lw_r8⟩⟩⟩⟩⟩⟩⟩

def RX0 : String := "IsHeIn$Belief"
def TX0 : u_T := fun k => match k with
  | 0 => ("IsHeIn$Belief", "house", "LIsHeIn$House;", true)
  | 1 => ("IsHeIn$Belief", "law", "LIsHeIn$Law;", true)
  | 2 => ("IsHeIn$Belief", "glance", "[I", true)
  | 3 => ("IsHeIn$Belief", "chances", "[I", true)
  | _ => ("IsHeIn$Belief", "sures", "[I", true)
def tyX0 : Nat → FieldType := fun k => match k with
  | 0 => .object "IsHeIn$House"
  | 1 => .object "IsHeIn$Law"
  | 2 => .array .int
  | 3 => .array .int
  | _ => .array .int
theorem nmX0 : ∀ a, a < 5 → ∀ b, b < 5 → a ≠ b → (TX0 a).2.1 ≠ (TX0 b).2.1 := by decide +kernel
theorem tyX0_ok : ∀ k, k < 5 → parseFieldDescriptor (TX0 k).2.2.1 = some (tyX0 k) := by decide +kernel
def RX1 : String := "IsHeIn$Foresight"
def TX1 : u_T := fun k => match k with
  | 0 => ("IsHeIn$Foresight", "house", "LIsHeIn$House;", true)
  | 1 => ("IsHeIn$Foresight", "law", "LIsHeIn$Law;", true)
  | 2 => ("IsHeIn$Foresight", "seen", "LIsHeIn$Table;", true)
  | _ => ("IsHeIn$Foresight", "rest", "LIsHeIn$Table;", true)
def tyX1 : Nat → FieldType := fun k => match k with
  | 0 => .object "IsHeIn$House"
  | 1 => .object "IsHeIn$Law"
  | 2 => .object "IsHeIn$Table"
  | _ => .object "IsHeIn$Table"
theorem nmX1 : ∀ a, a < 4 → ∀ b, b < 4 → a ≠ b → (TX1 a).2.1 ≠ (TX1 b).2.1 := by decide +kernel
theorem tyX1_ok : ∀ k, k < 4 → parseFieldDescriptor (TX1 k).2.2.1 = some (tyX1 k) := by decide +kernel
def RX2 : String := "IsHeIn$House"
def TX2 : u_T := fun k => match k with
  | 0 => ("IsHeIn$House", "guests", "LIsHeIn$Table;", true)
  | 1 => ("IsHeIn$House", "book", "LIsHeIn$Table;", true)
  | 2 => ("IsHeIn$House", "laws", "LIsHeIn$Table;", true)
  | 3 => ("IsHeIn$House", "code", "LIsHeIn$Table;", true)
  | 4 => ("IsHeIn$House", "signs", "LIsHeIn$Table;", true)
  | 5 => ("IsHeIn$House", "shifts", "LIsHeIn$Table;", true)
  | 6 => ("IsHeIn$House", "rooms", "LIsHeIn$Table;", true)
  | 7 => ("IsHeIn$House", "callers", "LIsHeIn$Table;", true)
  | 8 => ("IsHeIn$House", "pear", "I", false)
  | 9 => ("IsHeIn$House", "rain", "I", false)
  | 10 => ("IsHeIn$House", "hour", "I", false)
  | _ => ("IsHeIn$House", "draws", "I", false)
def tyX2 : Nat → FieldType := fun k => match k with
  | 0 => .object "IsHeIn$Table"
  | 1 => .object "IsHeIn$Table"
  | 2 => .object "IsHeIn$Table"
  | 3 => .object "IsHeIn$Table"
  | 4 => .object "IsHeIn$Table"
  | 5 => .object "IsHeIn$Table"
  | 6 => .object "IsHeIn$Table"
  | 7 => .object "IsHeIn$Table"
  | 8 => .int
  | 9 => .int
  | 10 => .int
  | _ => .int
theorem nmX2 : ∀ a, a < 12 → ∀ b, b < 12 → a ≠ b → (TX2 a).2.1 ≠ (TX2 b).2.1 := by decide +kernel
theorem tyX2_ok : ∀ k, k < 12 → parseFieldDescriptor (TX2 k).2.2.1 = some (tyX2 k) := by decide +kernel
def RX3 : String := "IsHeIn$Law"
def TX3 : u_T := fun k => match k with
  | 0 => ("IsHeIn$Law", "house", "LIsHeIn$House;", true)
  | 1 => ("IsHeIn$Law", "known", "[I", true)
  | _ => ("IsHeIn$Law", "stack", "[I", true)
def tyX3 : Nat → FieldType := fun k => match k with
  | 0 => .object "IsHeIn$House"
  | 1 => .array .int
  | _ => .array .int
theorem nmX3 : ∀ a, a < 3 → ∀ b, b < 3 → a ≠ b → (TX3 a).2.1 ≠ (TX3 b).2.1 := by decide +kernel
theorem tyX3_ok : ∀ k, k < 3 → parseFieldDescriptor (TX3 k).2.2.1 = some (tyX3 k) := by decide +kernel
def RX4 : String := "IsHeIn$Moment"
def TX4 : u_T := fun k => match k with
  | 0 => ("IsHeIn$Moment", "guests", "LIsHeIn$Table;", true)
  | 1 => ("IsHeIn$Moment", "lines", "I", false)
  | 2 => ("IsHeIn$Moment", "hour", "I", false)
  | _ => ("IsHeIn$Moment", "draws", "I", false)
def tyX4 : Nat → FieldType := fun k => match k with
  | 0 => .object "IsHeIn$Table"
  | 1 => .int
  | 2 => .int
  | _ => .int
theorem nmX4 : ∀ a, a < 4 → ∀ b, b < 4 → a ≠ b → (TX4 a).2.1 ≠ (TX4 b).2.1 := by decide +kernel
theorem tyX4_ok : ∀ k, k < 4 → parseFieldDescriptor (TX4 k).2.2.1 = some (tyX4 k) := by decide +kernel
def RX5 : String := "IsHeIn$Past"
def TX5 : u_T := fun k => match k with
  | 0 => ("IsHeIn$Past", "moments", "[LIsHeIn$Moment;", true)
  | 1 => ("IsHeIn$Past", "count", "I", false)
  | _ => ("IsHeIn$Past", "top", "I", false)
def tyX5 : Nat → FieldType := fun k => match k with
  | 0 => .array (.object "IsHeIn$Moment")
  | 1 => .int
  | _ => .int
theorem nmX5 : ∀ a, a < 3 → ∀ b, b < 3 → a ≠ b → (TX5 a).2.1 ≠ (TX5 b).2.1 := by decide +kernel
theorem tyX5_ok : ∀ k, k < 3 → parseFieldDescriptor (TX5 k).2.2.1 = some (tyX5 k) := by decide +kernel
def RX6 : String := "IsHeIn$Porter"
def TX6 : u_T := fun k => match k with
  | 0 => ("IsHeIn$Porter", "house", "LIsHeIn$House;", true)
  | 1 => ("IsHeIn$Porter", "law", "LIsHeIn$Law;", true)
  | _ => ("IsHeIn$Porter", "told", "[I", true)
def tyX6 : Nat → FieldType := fun k => match k with
  | 0 => .object "IsHeIn$House"
  | 1 => .object "IsHeIn$Law"
  | _ => .array .int
theorem nmX6 : ∀ a, a < 3 → ∀ b, b < 3 → a ≠ b → (TX6 a).2.1 ≠ (TX6 b).2.1 := by decide +kernel
theorem tyX6_ok : ∀ k, k < 3 → parseFieldDescriptor (TX6 k).2.2.1 = some (tyX6 k) := by decide +kernel
def RX7 : String := "IsHeIn$Reader"
def TX7 : u_T := fun k => match k with
  | 0 => ("IsHeIn$Reader", "laws", "LIsHeIn$Table;", true)
  | 1 => ("IsHeIn$Reader", "code", "LIsHeIn$Table;", true)
  | 2 => ("IsHeIn$Reader", "signs", "LIsHeIn$Table;", true)
  | 3 => ("IsHeIn$Reader", "shifts", "LIsHeIn$Table;", true)
  | 4 => ("IsHeIn$Reader", "tape", "[I", true)
  | 5 => ("IsHeIn$Reader", "tokens", "LIsHeIn$Table;", true)
  | 6 => ("IsHeIn$Reader", "waiting", "[I", true)
  | 7 => ("IsHeIn$Reader", "waitingCount", "I", false)
  | 8 => ("IsHeIn$Reader", "openCount", "I", false)
  | 9 => ("IsHeIn$Reader", "length", "I", false)
  | 10 => ("IsHeIn$Reader", "fault", "I", false)
  | 11 => ("IsHeIn$Reader", "faultPlace", "I", false)
  | 12 => ("IsHeIn$Reader", "token", "I", false)
  | 13 => ("IsHeIn$Reader", "place", "I", false)
  | 14 => ("IsHeIn$Reader", "kind", "I", false)
  | 15 => ("IsHeIn$Reader", "value", "I", false)
  | _ => ("IsHeIn$Reader", "start", "I", false)
def tyX7 : Nat → FieldType := fun k => match k with
  | 0 => .object "IsHeIn$Table"
  | 1 => .object "IsHeIn$Table"
  | 2 => .object "IsHeIn$Table"
  | 3 => .object "IsHeIn$Table"
  | 4 => .array .int
  | 5 => .object "IsHeIn$Table"
  | 6 => .array .int
  | 7 => .int
  | 8 => .int
  | 9 => .int
  | 10 => .int
  | 11 => .int
  | 12 => .int
  | 13 => .int
  | 14 => .int
  | 15 => .int
  | _ => .int
theorem nmX7 : ∀ a, a < 17 → ∀ b, b < 17 → a ≠ b → (TX7 a).2.1 ≠ (TX7 b).2.1 := by decide +kernel
theorem tyX7_ok : ∀ k, k < 17 → parseFieldDescriptor (TX7 k).2.2.1 = some (tyX7 k) := by decide +kernel
def RX8 : String := "IsHeIn$Records"
def TX8 : u_T := fun k => match k with
  | _ => ("IsHeIn$Records", "house", "LIsHeIn$House;", true)
def tyX8 : Nat → FieldType := fun k => match k with
  | _ => .object "IsHeIn$House"
theorem nmX8 : ∀ a, a < 1 → ∀ b, b < 1 → a ≠ b → (TX8 a).2.1 ≠ (TX8 b).2.1 := by decide +kernel
theorem tyX8_ok : ∀ k, k < 1 → parseFieldDescriptor (TX8 k).2.2.1 = some (tyX8 k) := by decide +kernel
def RX9 : String := "IsHeIn$Rounds"
def TX9 : u_T := fun k => match k with
  | 0 => ("IsHeIn$Rounds", "house", "LIsHeIn$House;", true)
  | 1 => ("IsHeIn$Rounds", "belief", "LIsHeIn$Belief;", true)
  | 2 => ("IsHeIn$Rounds", "sures", "[I", true)
  | 3 => ("IsHeIn$Rounds", "onFloor", "[I", true)
  | 4 => ("IsHeIn$Rounds", "row", "[I", true)
  | 5 => ("IsHeIn$Rounds", "bestRow", "[I", true)
  | 6 => ("IsHeIn$Rounds", "bestLength", "I", false)
  | _ => ("IsHeIn$Rounds", "mostFound", "J", false)
def tyX9 : Nat → FieldType := fun k => match k with
  | 0 => .object "IsHeIn$House"
  | 1 => .object "IsHeIn$Belief"
  | 2 => .array .int
  | 3 => .array .int
  | 4 => .array .int
  | 5 => .array .int
  | 6 => .int
  | _ => .long
theorem nmX9 : ∀ a, a < 8 → ∀ b, b < 8 → a ≠ b → (TX9 a).2.1 ≠ (TX9 b).2.1 := by decide +kernel
theorem tyX9_ok : ∀ k, k < 8 → parseFieldDescriptor (TX9 k).2.2.1 = some (tyX9 k) := by decide +kernel
def RX10 : String := "IsHeIn$Table"
def TX10 : u_T := fun k => match k with
  | 0 => ("IsHeIn$Table", "most", "I", true)
  | 1 => ("IsHeIn$Table", "width", "I", true)
  | 2 => ("IsHeIn$Table", "cells", "[I", true)
  | _ => ("IsHeIn$Table", "rows", "I", false)
def tyX10 : Nat → FieldType := fun k => match k with
  | 0 => .int
  | 1 => .int
  | 2 => .array .int
  | _ => .int
theorem nmX10 : ∀ a, a < 4 → ∀ b, b < 4 → a ≠ b → (TX10 a).2.1 ≠ (TX10 b).2.1 := by decide +kernel
theorem tyX10_ok : ∀ k, k < 4 → parseFieldDescriptor (TX10 k).2.2.1 = some (tyX10 k) := by decide +kernel
def RX11 : String := "IsHeIn"
def TX11 : u_T := fun k => match k with
  | 0 => ("IsHeIn", "house", "LIsHeIn$House;", true)
  | 1 => ("IsHeIn", "kept", "LIsHeIn$House;", true)
  | 2 => ("IsHeIn", "isKept", "Z", false)
  | 3 => ("IsHeIn", "past", "LIsHeIn$Past;", true)
  | 4 => ("IsHeIn", "reader", "LIsHeIn$Reader;", true)
  | 5 => ("IsHeIn", "law", "LIsHeIn$Law;", true)
  | 6 => ("IsHeIn", "porter", "LIsHeIn$Porter;", true)
  | 7 => ("IsHeIn", "belief", "LIsHeIn$Belief;", true)
  | 8 => ("IsHeIn", "foresight", "LIsHeIn$Foresight;", true)
  | 9 => ("IsHeIn", "records", "LIsHeIn$Records;", true)
  | _ => ("IsHeIn", "rounds", "LIsHeIn$Rounds;", true)
def tyX11 : Nat → FieldType := fun k => match k with
  | 0 => .object "IsHeIn$House"
  | 1 => .object "IsHeIn$House"
  | 2 => .boolean
  | 3 => .object "IsHeIn$Past"
  | 4 => .object "IsHeIn$Reader"
  | 5 => .object "IsHeIn$Law"
  | 6 => .object "IsHeIn$Porter"
  | 7 => .object "IsHeIn$Belief"
  | 8 => .object "IsHeIn$Foresight"
  | 9 => .object "IsHeIn$Records"
  | _ => .object "IsHeIn$Rounds"
theorem nmX11 : ∀ a, a < 11 → ∀ b, b < 11 → a ≠ b → (TX11 a).2.1 ≠ (TX11 b).2.1 := by decide +kernel
theorem tyX11_ok : ∀ k, k < 11 → parseFieldDescriptor (TX11 k).2.2.1 = some (tyX11 k) := by decide +kernel
def RX12 : String := "IsHeInModel"
def TX12 : u_T := fun k => match k with
  | 0 => ("IsHeInModel", "w", "[I", true)
  | 1 => ("IsHeInModel", "kept", "[I", true)
  | 2 => ("IsHeInModel", "back", "[I", true)
  | 3 => ("IsHeInModel", "backMany", "I", false)
  | 4 => ("IsHeInModel", "hasImage", "Z", false)
  | 5 => ("IsHeInModel", "freshLine", "[I", true)
  | 6 => ("IsHeInModel", "freshStep", "[I", true)
  | 7 => ("IsHeInModel", "freshRow", "[I", true)
  | 8 => ("IsHeInModel", "tape", "[I", true)
  | 9 => ("IsHeInModel", "pile", "[I", true)
  | 10 => ("IsHeInModel", "facts", "[I", true)
  | 11 => ("IsHeInModel", "reading", "I", false)
  | 12 => ("IsHeInModel", "lines", "I", false)
  | 13 => ("IsHeInModel", "steps", "I", false)
  | 14 => ("IsHeInModel", "rows", "I", false)
  | 15 => ("IsHeInModel", "taped", "I", false)
  | 16 => ("IsHeInModel", "at", "I", false)
  | 17 => ("IsHeInModel", "token", "I", false)
  | 18 => ("IsHeInModel", "tokenAt", "I", false)
  | 19 => ("IsHeInModel", "value", "I", false)
  | 20 => ("IsHeInModel", "wrong", "I", false)
  | 21 => ("IsHeInModel", "wrongAt", "I", false)
  | 22 => ("IsHeInModel", "faultKind", "I", false)
  | 23 => ("IsHeInModel", "depth", "I", false)
  | 24 => ("IsHeInModel", "faultPlace", "I", false)
  | 25 => ("IsHeInModel", "numbered", "I", false)
  | 26 => ("IsHeInModel", "chance", "[J", true)
  | 27 => ("IsHeInModel", "others", "[J", true)
  | 28 => ("IsHeInModel", "onFloor", "[J", true)
  | 29 => ("IsHeInModel", "way", "[I", true)
  | 30 => ("IsHeInModel", "bestWay", "[I", true)
  | 31 => ("IsHeInModel", "mostFound", "J", false)
  | 32 => ("IsHeInModel", "bestLong", "I", false)
  | 33 => ("IsHeInModel", "seenAt", "[I", true)
  | _ => ("IsHeInModel", "mostFrom", "[I", true)
def tyX12 : Nat → FieldType := fun k => match k with
  | 0 => .array .int
  | 1 => .array .int
  | 2 => .array .int
  | 3 => .int
  | 4 => .boolean
  | 5 => .array .int
  | 6 => .array .int
  | 7 => .array .int
  | 8 => .array .int
  | 9 => .array .int
  | 10 => .array .int
  | 11 => .int
  | 12 => .int
  | 13 => .int
  | 14 => .int
  | 15 => .int
  | 16 => .int
  | 17 => .int
  | 18 => .int
  | 19 => .int
  | 20 => .int
  | 21 => .int
  | 22 => .int
  | 23 => .int
  | 24 => .int
  | 25 => .int
  | 26 => .array .long
  | 27 => .array .long
  | 28 => .array .long
  | 29 => .array .int
  | 30 => .array .int
  | 31 => .long
  | 32 => .int
  | 33 => .array .int
  | _ => .array .int
theorem nmX12 : ∀ a, a < 35 → ∀ b, b < 35 → a ≠ b → (TX12 a).2.1 ≠ (TX12 b).2.1 := by decide +kernel
theorem tyX12_ok : ∀ k, k < 35 → parseFieldDescriptor (TX12 k).2.2.1 = some (tyX12 k) := by decide +kernel
/-- the classes whose objects the world holds -/
def m_cl : List vw_C := [(RX0, TX0, 5), (RX1, TX1, 4), (RX2, TX2, 12), (RX3, TX3, 3), (RX4, TX4, 4), (RX5, TX5, 3), (RX6, TX6, 3), (RX7, TX7, 17), (RX8, TX8, 1), (RX9, TX9, 8), (RX10, TX10, 4), (RX11, TX11, 11), (RX12, TX12, 35)]
def m_ty : Nat → Nat → FieldType := fun c => match c with
  | 0 => tyX0
  | 1 => tyX1
  | 2 => tyX2
  | 3 => tyX3
  | 4 => tyX4
  | 5 => tyX5
  | 6 => tyX6
  | 7 => tyX7
  | 8 => tyX8
  | 9 => tyX9
  | 10 => tyX10
  | 11 => tyX11
  | _ => tyX12
def m_df : Nat → List Value := fun c => match c with
  | 0 => [.null, .null, .null, .null, .null]
  | 1 => [.null, .null, .null, .null]
  | 2 => [.null, .null, .null, .null, .null, .null, .null, .null, .int 0, .int 0, .int 0, .int 0]
  | 3 => [.null, .null, .null]
  | 4 => [.null, .int 0, .int 0, .int 0]
  | 5 => [.null, .int 0, .int 0]
  | 6 => [.null, .null, .null]
  | 7 => [.null, .null, .null, .null, .null, .null, .null, .int 0, .int 0, .int 0, .int 0, .int 0, .int 0, .int 0, .int 0, .int 0, .int 0]
  | 8 => [.null]
  | 9 => [.null, .null, .null, .null, .null, .null, .int 0, .long 0]
  | 10 => [.int 0, .int 0, .null, .int 0]
  | 11 => [.null, .null, .int 0, .null, .null, .null, .null, .null, .null, .null, .null]
  | _ => [.null, .null, .null, .int 0, .int 0, .null, .null, .null, .null, .null, .null, .int 0, .int 0, .int 0, .int 0, .int 0, .int 0, .int 0, .int 0, .int 0, .int 0, .int 0, .int 0, .int 0, .int 0, .int 0, .null, .null, .null, .null, .null, .long 0, .int 0, .null, .null]
def m_nest : List Cond := [(Jvm.Cond.methodLinkNest "IsHeIn" (11 : Nat) ({ cls := "IsHeIn$House", name := "<init>", desc := "()V" } : Jvm.MethodName) "IsHeIn"), (Jvm.Cond.methodLinkNest "IsHeIn$Past" (24 : Nat) ({ cls := "IsHeIn$Moment", name := "<init>", desc := "()V" } : Jvm.MethodName) "IsHeIn"), (Jvm.Cond.methodLinkNest "IsHeIn" (32 : Nat) ({ cls := "IsHeIn$Reader", name := "<init>", desc := "()V" } : Jvm.MethodName) "IsHeIn"), (Jvm.Cond.methodLinkNest "IsHeIn$Law" (22 : Nat) ({ cls := "IsHeIn", name := "put", desc := "([III)V" } : Jvm.MethodName) "IsHeIn"), (Jvm.Cond.methodLinkNest "IsHeIn$Law" (69 : Nat) ({ cls := "IsHeIn", name := "cell", desc := "([II)I" } : Jvm.MethodName) "IsHeIn"), (Jvm.Cond.fieldLinkNest "IsHeIn$Law" (73 : Nat) "IsHeIn" "UNTOLD" "[I" "IsHeIn"), (Jvm.Cond.methodLinkNest "IsHeIn$Porter" (78 : Nat) ({ cls := "IsHeIn", name := "cell", desc := "([II)I" } : Jvm.MethodName) "IsHeIn"), (Jvm.Cond.methodLinkNest "IsHeIn$Reader" (70 : Nat) ({ cls := "IsHeIn", name := "put", desc := "([III)V" } : Jvm.MethodName) "IsHeIn"), (Jvm.Cond.methodLinkNest "IsHeIn$Reader" (112 : Nat) ({ cls := "IsHeIn", name := "cell", desc := "([II)I" } : Jvm.MethodName) "IsHeIn"), (Jvm.Cond.methodLinkNest "IsHeIn$Reader" (173 : Nat) ({ cls := "IsHeIn", name := "isWithin", desc := "(III)Z" } : Jvm.MethodName) "IsHeIn"), (Jvm.Cond.methodLinkNest "IsHeIn$Belief" (64 : Nat) ({ cls := "IsHeIn", name := "cell", desc := "([II)I" } : Jvm.MethodName) "IsHeIn"), (Jvm.Cond.methodLinkNest "IsHeIn$Belief" (96 : Nat) ({ cls := "IsHeIn", name := "put", desc := "([III)V" } : Jvm.MethodName) "IsHeIn"), (Jvm.Cond.methodLinkNest "IsHeIn$Belief" (110 : Nat) ({ cls := "IsHeIn", name := "share", desc := "(II)I" } : Jvm.MethodName) "IsHeIn"), (Jvm.Cond.methodLinkNest "IsHeIn$Rounds" (61 : Nat) ({ cls := "IsHeIn", name := "put", desc := "([III)V" } : Jvm.MethodName) "IsHeIn"), (Jvm.Cond.methodLinkNest "IsHeIn$Rounds" (68 : Nat) ({ cls := "IsHeIn", name := "cell", desc := "([II)I" } : Jvm.MethodName) "IsHeIn")]
/-- the String constants: owner, place in its pool, text -/
def m_str : List (String × Nat × String) := [("IsHeIn$Reader", 145, "go come carry stray front prior guest floor age clock day pear rain board since when or and not sign in out clerk from for at "), ("IsHeInModel", 135, "when"), ("IsHeInModel", 137, "or"), ("IsHeInModel", 139, "and"), ("IsHeInModel", 141, "not"), ("IsHeInModel", 114, "guest"), ("IsHeInModel", 116, "floor"), ("IsHeInModel", 118, "age"), ("IsHeInModel", 120, "clock"), ("IsHeInModel", 122, "day"), ("IsHeInModel", 124, "pear"), ("IsHeInModel", 126, "rain"), ("IsHeInModel", 128, "board"), ("IsHeInModel", 130, "since"), ("IsHeInModel", 98, "go"), ("IsHeInModel", 104, "come"), ("IsHeInModel", 106, "carry"), ("IsHeInModel", 108, "stray"), ("IsHeInModel", 110, "front"), ("IsHeInModel", 112, "prior"), ("IsHeInModel", 146, "sign"), ("IsHeInModel", 148, "in"), ("IsHeInModel", 150, "out"), ("IsHeInModel", 152, "clerk"), ("IsHeInModel", 154, "from"), ("IsHeInModel", 156, "for"), ("IsHeInModel", 158, "at")]
def m_sb : List (List Int32) := [[103, 111, 32, 99, 111, 109, 101, 32, 99, 97, 114, 114, 121, 32, 115, 116, 114, 97, 121, 32, 102, 114, 111, 110, 116, 32, 112, 114, 105, 111, 114, 32, 103, 117, 101, 115, 116, 32, 102, 108, 111, 111, 114, 32, 97, 103, 101, 32, 99, 108, 111, 99, 107, 32, 100, 97, 121, 32, 112, 101, 97, 114, 32, 114, 97, 105, 110, 32, 98, 111, 97, 114, 100, 32, 115, 105, 110, 99, 101, 32, 119, 104, 101, 110, 32, 111, 114, 32, 97, 110, 100, 32, 110, 111, 116, 32, 115, 105, 103, 110, 32, 105, 110, 32, 111, 117, 116, 32, 99, 108, 101, 114, 107, 32, 102, 114, 111, 109, 32, 102, 111, 114, 32, 97, 116, 32], [119, 104, 101, 110], [111, 114], [97, 110, 100], [110, 111, 116], [103, 117, 101, 115, 116], [102, 108, 111, 111, 114], [97, 103, 101], [99, 108, 111, 99, 107], [100, 97, 121], [112, 101, 97, 114], [114, 97, 105, 110], [98, 111, 97, 114, 100], [115, 105, 110, 99, 101], [103, 111], [99, 111, 109, 101], [99, 97, 114, 114, 121], [115, 116, 114, 97, 121], [102, 114, 111, 110, 116], [112, 114, 105, 111, 114], [115, 105, 103, 110], [105, 110], [111, 117, 116], [99, 108, 101, 114, 107], [102, 114, 111, 109], [102, 111, 114], [97, 116]]
end
section
/-! the classes' rows in the tables -/
theorem m_lay0 : m_cl.all (fun q => (u_ws q.1 q.2.1 q.2.2).all (fun w => decide (w ∈ lw_tbl) && goodWord w)) = true := by decide +kernel
theorem m_clty : ∀ c, c < 13 → match m_cl[c]? with
    | some q => (∀ k, k < q.2.2 → parseFieldDescriptor (q.2.1 k).2.2.1 = some (m_ty c k)) ∧ (∀ a, a < q.2.2 → ∀ b, b < q.2.2 → a ≠ b → (q.2.1 a).2.1 ≠ (q.2.1 b).2.1)
    | none => True := by
  intro c hc
  match c, hc with
  | 0, _ => exact ⟨tyX0_ok, nmX0⟩
  | 1, _ => exact ⟨tyX1_ok, nmX1⟩
  | 2, _ => exact ⟨tyX2_ok, nmX2⟩
  | 3, _ => exact ⟨tyX3_ok, nmX3⟩
  | 4, _ => exact ⟨tyX4_ok, nmX4⟩
  | 5, _ => exact ⟨tyX5_ok, nmX5⟩
  | 6, _ => exact ⟨tyX6_ok, nmX6⟩
  | 7, _ => exact ⟨tyX7_ok, nmX7⟩
  | 8, _ => exact ⟨tyX8_ok, nmX8⟩
  | 9, _ => exact ⟨tyX9_ok, nmX9⟩
  | 10, _ => exact ⟨tyX10_ok, nmX10⟩
  | 11, _ => exact ⟨tyX11_ok, nmX11⟩
  | 12, _ => exact ⟨tyX12_ok, nmX12⟩
  | c + 13, h => exact absurd h (by omega)
theorem m_clok {c : Nat} {C : String} {T : u_T} {n : Nat} (h : m_cl[c]? = some (C, T, n)) : (∀ w ∈ u_ws C T n, w ∈ lw_tbl ∧ goodWord w = true) ∧ (∀ k, k < n → parseFieldDescriptor (T k).2.2.1 = some (m_ty c k)) ∧ (∀ a, a < n → ∀ b, b < n → a ≠ b → (T a).2.1 ≠ (T b).2.1) := by
  have hc : c < 13 := (List.getElem?_eq_some_iff.mp h).1
  have h2 := m_clty c hc
  rw [h] at h2
  have h3 := List.all_eq_true.mp m_lay0 _ (List.mem_of_getElem? h)
  refine ⟨fun w hw => ?_, h2.1, h2.2⟩
  have h4 := List.all_eq_true.mp h3 w hw
  simpa [Bool.and_eq_true, decide_eq_true_eq] using h4
/-- what a new object holds: nothing yet -/
theorem m_dfok : ∀ c, c < 13 → match m_cl[c]? with
    | some q => (m_df c).length = q.2.2 ∧ ∀ j, j < q.2.2 → (m_df c)[j]? = some (defaultValue (m_ty c j))
    | none => True := by
  intro c hc
  match c, hc with
  | 0, _ => exact ⟨by decide +kernel, by decide +kernel⟩
  | 1, _ => exact ⟨by decide +kernel, by decide +kernel⟩
  | 2, _ => exact ⟨by decide +kernel, by decide +kernel⟩
  | 3, _ => exact ⟨by decide +kernel, by decide +kernel⟩
  | 4, _ => exact ⟨by decide +kernel, by decide +kernel⟩
  | 5, _ => exact ⟨by decide +kernel, by decide +kernel⟩
  | 6, _ => exact ⟨by decide +kernel, by decide +kernel⟩
  | 7, _ => exact ⟨by decide +kernel, by decide +kernel⟩
  | 8, _ => exact ⟨by decide +kernel, by decide +kernel⟩
  | 9, _ => exact ⟨by decide +kernel, by decide +kernel⟩
  | 10, _ => exact ⟨by decide +kernel, by decide +kernel⟩
  | 11, _ => exact ⟨by decide +kernel, by decide +kernel⟩
  | 12, _ => exact ⟨by decide +kernel, by decide +kernel⟩
  | c + 13, h => exact absurd h (by omega)
end
section
/-! THE SMALL MACHINE: the bytecode run over a heap of numbered cells, as a function. A heap: shapes (arrays: kind, length, contents if of references; objects: class, fields, where '.int 0' and '.long 0' only say of which kind a field is), the ints and the longs by cell and place. -/
abbrev mS : Type := (Nat × Nat × List (Option Nat)) ⊕ (Nat × List Value)
abbrev mH : Type := List mS × (Nat → Nat → Int32) × (Nat → Nat → Int64)
abbrev mF : Type := Nat × List (Option Value) × List Value × mH
abbrev mI : Type := Nat × Instr × List Int
/-- a method: kind (0 static, 1 virtual, 2 constructor), name, bytes, locals, result, class of the receiver, places of its words, instructions -/
abbrev mM : Type := Nat × MethodName × ByteArray × Nat × Option FieldType × Nat × List Nat × List mI
def mu (D : Nat → Nat → Int32) (i k : Nat) (x : Int32) : Nat → Nat → Int32 := fun a => if a = i then (fun b => if b = k then x else D a b) else D a
def muL (D : Nat → Nat → Int64) (i k : Nat) (x : Int64) : Nat → Nat → Int64 := fun a => if a = i then (fun b => if b = k then x else D a b) else D a
def mz (D : Nat → Nat → Int32) (i : Nat) : Nat → Nat → Int32 := fun a => if a = i then (fun _ => 0) else D a
def mzL (D : Nat → Nat → Int64) (i : Nat) : Nat → Nat → Int64 := fun a => if a = i then (fun _ => 0) else D a
/-- the slots of all shapes together -/
def m_sl1 : mS → Nat
  | .inl (_, n, _) => n
  | .inr (_, fs) => fs.length
def m_sl : List mS → Nat
  | [] => 0
  | a :: r => m_sl1 a + m_sl r
/-- what was the static row of numbers -/
def m_unt : List Int32 := [100, 200, 300, 0, 500]
def m_len (ins : Instr) (aux : List Int) : Nat := match ins with
  | .bipush _ | .newarray _ | .ldc _ | .iload _ | .lload _ | .aload _ | .istore _ | .lstore _ | .astore _ => 2
  | .sipush _ | .ldc_w _ | .ldc2_w _ | .iinc _ _ | .goto _ | .ifCond _ _ | .if_icmp _ _ | .ifnull _ | .ifnonnull _ | .getfield _ | .putfield _ | .getstatic _ | .new _ | .anewarray _ | .invokevirtual _ | .invokespecial _ | .invokestatic _ => 3
  | .tableswitch _ _ _ _ => match aux with
    | [n] => n.toNat
    | _ => 0
  | _ => 1
/-- a value into local i: of one place .. -/
def m_s1 (ls : List (Option Value)) (i : Nat) (v : Value) : Option (List (Option Value)) :=
  if i < ls.length then
    match i with
    | 0 => some (ls.set 0 (some v))
    | k + 1 => match ls[k]? with
      | some (some (.long _)) => some ((ls.set (k + 1) (some v)).set k none)
      | some (some (.double _)) => none
      | _ => some (ls.set (k + 1) (some v))
  else none
/-- .. and of two -/
def m_s2 (ls : List (Option Value)) (i : Nat) (v : Value) : Option (List (Option Value)) :=
  if i + 1 < ls.length then
    match i with
    | 0 => some ((ls.set 0 (some v)).set 1 none)
    | k + 1 => match ls[k]? with
      | some (some (.long _)) => some (((ls.set (k + 1) (some v)).set (k + 2) none).set k none)
      | some (some (.double _)) => none
      | _ => some ((ls.set (k + 1) (some v)).set (k + 2) none)
  else none
def m_li (ls : List (Option Value)) (i : Nat) : Option Int32 := match ls[i]? with
  | some (some (.int x)) => some x
  | _ => none
def m_ll (ls : List (Option Value)) (i : Nat) : Option Int64 := match ls[i]? with
  | some (some (.long x)) => some x
  | _ => none
def m_la (ls : List (Option Value)) (i : Nat) : Option Value := match ls[i]? with
  | some (some (.ref j)) => some (.ref j)
  | some (some .null) => some .null
  | _ => none
/-- where a jump goes -/
def m_to (pc : Nat) (off : Int) : Nat := ((pc : Int) + off).toNat
def m_if (c : ClassFile.Cond) (x y : Int32) (a b : Nat) : Nat := match c with
  | .eq => if x = y then a else b
  | .ne => if x = y then b else a
  | .lt => if x < y then a else b
  | .ge => if y ≤ x then a else b
  | .gt => if y < x then a else b
  | .le => if x ≤ y then a else b
/-- consts and locals -/
def m_op1 (ins : Instr) (aux : List Int) (pc : Nat) (ls : List (Option Value)) (st : List Value) (h : mH) : Option mF := match ins with
  | .iconst n => some (pc + 1, ls, .int (Int32.ofInt n) :: st, h)
  | .bipush n => some (pc + 2, ls, .int (Int8.ofInt n).toInt32 :: st, h)
  | .sipush n => some (pc + 3, ls, .int (Int16.ofInt n).toInt32 :: st, h)
  | .lconst n => some (pc + 1, ls, .long (Int64.ofNat (n : Nat)) :: st, h)
  | .aconst_null => some (pc + 1, ls, .null :: st, h)
  | .ldc _ => match aux with
    | [0, v, _] => some (pc + 2, ls, .int (Int32.ofInt v) :: st, h)
    | [1, k, _] => if k.toNat < 27 then some (pc + 2, ls, .ref (1000100 + k.toNat) :: st, h) else none
    | _ => none
  | .ldc_w _ => match aux with
    | [0, v, _] => some (pc + 3, ls, .int (Int32.ofInt v) :: st, h)
    | _ => none
  | .ldc2_w _ => match aux with
    | [v, _] => some (pc + 3, ls, .long (Int64.ofInt v) :: st, h)
    | _ => none
  | .iload_n k => match m_li ls k with
    | some x => some (pc + 1, ls, .int x :: st, h)
    | none => none
  | .iload k => match m_li ls k with
    | some x => some (pc + 2, ls, .int x :: st, h)
    | none => none
  | .lload_n k => match m_ll ls k with
    | some x => some (pc + 1, ls, .long x :: st, h)
    | none => none
  | .lload k => match m_ll ls k with
    | some x => some (pc + 2, ls, .long x :: st, h)
    | none => none
  | .aload_n k => match m_la ls k with
    | some x => some (pc + 1, ls, x :: st, h)
    | none => none
  | .aload k => match m_la ls k with
    | some x => some (pc + 2, ls, x :: st, h)
    | none => none
  | .istore_n k => match st with
    | .int x :: r => match m_s1 ls k (.int x) with
      | some l => some (pc + 1, l, r, h)
      | none => none
    | _ => none
  | .istore k => match st with
    | .int x :: r => match m_s1 ls k (.int x) with
      | some l => some (pc + 2, l, r, h)
      | none => none
    | _ => none
  | .lstore_n k => match st with
    | .long x :: r => match m_s2 ls k (.long x) with
      | some l => some (pc + 1, l, r, h)
      | none => none
    | _ => none
  | .lstore k => match st with
    | .long x :: r => match m_s2 ls k (.long x) with
      | some l => some (pc + 2, l, r, h)
      | none => none
    | _ => none
  | .astore_n k => match st with
    | .ref x :: r => match m_s1 ls k (.ref x) with
      | some l => some (pc + 1, l, r, h)
      | none => none
    | .null :: r => match m_s1 ls k .null with
      | some l => some (pc + 1, l, r, h)
      | none => none
    | _ => none
  | .astore k => match st with
    | .ref x :: r => match m_s1 ls k (.ref x) with
      | some l => some (pc + 2, l, r, h)
      | none => none
    | .null :: r => match m_s1 ls k .null with
      | some l => some (pc + 2, l, r, h)
      | none => none
    | _ => none
  | .iinc k n => match m_li ls k with
    | some x => match m_s1 ls k (.int (x + Int32.ofInt n)) with
      | some l => some (pc + 3, l, st, h)
      | none => none
    | none => none
  | _ => none
/-- numbers, the stack, jumps -/
def m_op2 (ins : Instr) (pc : Nat) (ls : List (Option Value)) (st : List Value) (h : mH) : Option mF := match ins, st with
  | .iadd, .int y :: .int x :: r => some (pc + 1, ls, .int (x + y) :: r, h)
  | .isub, .int y :: .int x :: r => some (pc + 1, ls, .int (x - y) :: r, h)
  | .imul, .int y :: .int x :: r => some (pc + 1, ls, .int (x * y) :: r, h)
  | .iand, .int y :: .int x :: r => some (pc + 1, ls, .int (x &&& y) :: r, h)
  | .ior, .int y :: .int x :: r => some (pc + 1, ls, .int (x ||| y) :: r, h)
  | .idiv, .int y :: .int x :: r => if y = 0 then none else some (pc + 1, ls, .int (x / y) :: r, h)
  | .irem, .int y :: .int x :: r => if y = 0 then none else some (pc + 1, ls, .int (x - x / y * y) :: r, h)
  | .ineg, .int x :: r => some (pc + 1, ls, .int (0 - x) :: r, h)
  | .ishl, .int y :: .int x :: r => some (pc + 1, ls, .int (x <<< (y &&& 31)) :: r, h)
  | .ishr, .int y :: .int x :: r => some (pc + 1, ls, .int (x >>> (y &&& 31)) :: r, h)
  | .iushr, .int y :: .int x :: r => some (pc + 1, ls, .int (x.toUInt32 >>> (y.toUInt32 &&& Int32.toUInt32 31)).toInt32 :: r, h)
  | .ladd, .long y :: .long x :: r => some (pc + 1, ls, .long (x + y) :: r, h)
  | .lsub, .long y :: .long x :: r => some (pc + 1, ls, .long (x - y) :: r, h)
  | .lmul, .long y :: .long x :: r => some (pc + 1, ls, .long (x * y) :: r, h)
  | .ldiv, .long y :: .long x :: r => if y = 0 then none else some (pc + 1, ls, .long (x / y) :: r, h)
  | .lcmp, .long y :: .long x :: r => some (pc + 1, ls, .int (lg_cmp x y) :: r, h)
  | .i2l, .int x :: r => some (pc + 1, ls, .long x.toInt64 :: r, h)
  | .l2i, .long x :: r => some (pc + 1, ls, .int x.toInt32 :: r, h)
  | .i2c, .int x :: r => some (pc + 1, ls, .int (x.toUInt32 % 65536).toInt32 :: r, h)
  | .dup, .int x :: r => some (pc + 1, ls, .int x :: .int x :: r, h)
  | .dup, .ref x :: r => some (pc + 1, ls, .ref x :: .ref x :: r, h)
  | .dup2, .int x :: .ref y :: r => some (pc + 1, ls, .int x :: .ref y :: .int x :: .ref y :: r, h)
  | .pop, .int _ :: r => some (pc + 1, ls, r, h)
  | .goto off, st => some (m_to pc off, ls, st, h)
  | .ifCond c off, .int x :: r => some (m_if c x 0 (m_to pc off) (pc + 3), ls, r, h)
  | .if_icmp c off, .int y :: .int x :: r => some (m_if c x y (m_to pc off) (pc + 3), ls, r, h)
  | .ifnull off, .null :: r => some (m_to pc off, ls, r, h)
  | .ifnull _, .ref _ :: r => some (pc + 3, ls, r, h)
  | .ifnonnull _, .null :: r => some (pc + 3, ls, r, h)
  | .ifnonnull off, .ref _ :: r => some (m_to pc off, ls, r, h)
  | .tableswitch d lo hi offs, .int x :: r => if x.toInt < lo ∨ hi < x.toInt then some (m_to pc d, ls, r, h) else match offs.toList[(x.toInt - lo).toNat]? with
    | some o => some (m_to pc o, ls, r, h)
    | none => none
  | _, _ => none
def m_gf (h : mH) (i c k : Nat) : Option Value := match h.1[i]? with
  | some (.inr (c', fs)) => if c' = c then match fs[k]? with
      | some (.int _) => some (.int (h.2.1 i k))
      | some (.long _) => some (.long (h.2.2 i k))
      | some (.ref j) => some (.ref j)
      | some .null => some .null
      | _ => none
    else none
  | _ => none
def m_pf (h : mH) (i c k : Nat) (kd : Int) (v : Value) : Option mH := match h.1[i]? with
  | some (.inr (c', fs)) => if c' = c then match fs[k]?, v with
      | some (.int _), .int x => if kd = 0 then some (h.1, mu h.2.1 i k x, h.2.2) else if kd = 3 then (if x = 0 ∨ x = 1 then some (h.1, mu h.2.1 i k x, h.2.2) else none) else none
      | some (.long _), .long x => if kd = 1 then some (h.1, h.2.1, muL h.2.2 i k x) else none
      | some .null, .ref j => if kd = 2 then some (h.1.set i (.inr (c', fs.set k (.ref j))), h.2.1, h.2.2) else none
      | _, _ => none
    else none
  | _ => none
/-- the length of an array by its number -/
def m_al (N : Nat) (h : mH) (j : Nat) : Option Nat := match h.1[j]? with
  | some (.inl (k, n, _)) => if k < 3 then some n else none
  | some (.inr _) => none
  | none => if j = 1000000 then some N else if j = 1000001 then some 5 else if 1000200 ≤ j ∧ j < 1000227 then some (m_sb.getD (j - 1000200) []).length else none
/-- an int out of an array -/
def m_ia (N : Nat) (xs : Nat → Int32) (h : mH) (j : Nat) (i : Int32) : Option Int32 := match h.1[j]? with
  | some (.inl (0, n, _)) => if i < 0 ∨ n ≤ i.toNatClampNeg then none else some (h.2.1 j i.toNatClampNeg)
  | some _ => none
  | none => if j = 1000000 then (if i < 0 ∨ N ≤ i.toNatClampNeg then none else some (xs i.toNatClampNeg)) else if j = 1000001 then (if i < 0 ∨ 5 ≤ i.toNatClampNeg then none else some (m_unt.getD i.toNatClampNeg 0)) else none
/-- fields, arrays, what is made -/
def m_op3 (N : Nat) (xs : Nat → Int32) (ins : Instr) (aux : List Int) (pc : Nat) (ls : List (Option Value)) (st : List Value) (h : mH) : Option mF := match ins, st with
  | .getfield _, .ref i :: r => match aux with
    | [c, k, _, _, _] => match m_gf h i c.toNat k.toNat with
      | some v => some (pc + 3, ls, v :: r, h)
      | none => none
    | [-1, k, _] => if 1000100 ≤ i ∧ i < 1000127 then (if k = 0 then some (pc + 3, ls, .ref (i + 100) :: r, h) else some (pc + 3, ls, .int 0 :: r, h)) else none
    | _ => none
  | .putfield _, v :: .ref i :: r => match aux with
    | [c, k, _, kd, _] => match m_pf h i c.toNat k.toNat kd v with
      | some h' => some (pc + 3, ls, r, h')
      | none => none
    | _ => none
  | .getstatic _, st => match aux with
    | [0, _] => some (pc + 3, ls, .ref 1000001 :: st, h)
    | [1, _] => some (pc + 3, ls, .int 1 :: st, h)
    | [2, _] => some (pc + 3, ls, .retAddr 0 :: st, h)
    | _ => none
  | .arraylength, .ref j :: r => match m_al N h j with
    | some n => some (pc + 1, ls, .int (Int32.ofNat n) :: r, h)
    | none => none
  | .iaload, .int i :: .ref j :: r => match m_ia N xs h j i with
    | some x => some (pc + 1, ls, .int x :: r, h)
    | none => none
  | .laload, .int i :: .ref j :: r => match h.1[j]? with
    | some (.inl (1, n, _)) => if i < 0 ∨ n ≤ i.toNatClampNeg then none else some (pc + 1, ls, .long (h.2.2 j i.toNatClampNeg) :: r, h)
    | _ => none
  | .aaload, .int i :: .ref j :: r => match h.1[j]? with
    | some (.inl (2, n, q)) => if i < 0 ∨ n ≤ i.toNatClampNeg then none else some (pc + 1, ls, (match q.getD i.toNatClampNeg none with | some a => .ref a | none => .null) :: r, h)
    | _ => none
  | .baload, .int i :: .ref j :: r => if 1000200 ≤ j ∧ j < 1000227 then (if i < 0 ∨ (m_sb.getD (j - 1000200) []).length ≤ i.toNatClampNeg then none else some (pc + 1, ls, .int ((m_sb.getD (j - 1000200) []).getD i.toNatClampNeg 0) :: r, h)) else none
  | .iastore, .int x :: .int i :: .ref j :: r => match h.1[j]? with
    | some (.inl (0, n, _)) => if i < 0 ∨ n ≤ i.toNatClampNeg then none else some (pc + 1, ls, r, (h.1, mu h.2.1 j i.toNatClampNeg x, h.2.2))
    | _ => none
  | .lastore, .long x :: .int i :: .ref j :: r => match h.1[j]? with
    | some (.inl (1, n, _)) => if i < 0 ∨ n ≤ i.toNatClampNeg then none else some (pc + 1, ls, r, (h.1, h.2.1, muL h.2.2 j i.toNatClampNeg x))
    | _ => none
  | .aastore, .ref a :: .int i :: .ref j :: r => match h.1[j]?, h.1[a]? with
    | some (.inl (2, n, q)), some (.inr (4, _)) => if i < 0 ∨ n ≤ i.toNatClampNeg then none else if i.toNatClampNeg < q.length then some (pc + 1, ls, r, (h.1.set j (.inl (2, n, q.set i.toNatClampNeg (some a))), h.2.1, h.2.2)) else none
    | _, _ => none
  | .new _, st => match aux with
    | [c, _, _, _] => if h.1.length < 1000000 then some (pc + 3, ls, .ref h.1.length :: st, (h.1 ++ [.inr (c.toNat, m_df c.toNat)], mz h.2.1 h.1.length, mzL h.2.2 h.1.length)) else none
    | _ => none
  | .newarray t, .int n :: r => if n < 0 ∨ 1000000 ≤ n.toNatClampNeg then none else if h.1.length < 1000000 then (match t with
    | .int => some (pc + 2, ls, .ref h.1.length :: r, (h.1 ++ [.inl (0, n.toNatClampNeg, [])], mz h.2.1 h.1.length, mzL h.2.2 h.1.length))
    | .long => some (pc + 2, ls, .ref h.1.length :: r, (h.1 ++ [.inl (1, n.toNatClampNeg, [])], mz h.2.1 h.1.length, mzL h.2.2 h.1.length))
    | _ => none) else none
  | .anewarray _, .int n :: r => if n < 0 ∨ 1000000 ≤ n.toNatClampNeg then none else if h.1.length < 1000000 then some (pc + 3, ls, .ref h.1.length :: r, (h.1 ++ [.inl (2, n.toNatClampNeg, List.replicate n.toNatClampNeg none)], mz h.2.1 h.1.length, mzL h.2.2 h.1.length)) else none
  | .invokespecial _, .ref _ :: r => match aux with
    | [-1, 0, _, _] => if (r.map fun v => v.category).sum ≤ 8 then some (pc + 3, ls, r, h) else none
    | _ => none
  | _, _ => none
def m_op (N : Nat) (xs : Nat → Int32) (ins : Instr) (aux : List Int) (pc : Nat) (ls : List (Option Value)) (st : List Value) (h : mH) : Option mF :=
  match m_op1 ins aux pc ls st h with
  | some f => some f
  | none => match m_op2 ins pc ls st h with
    | some f => some f
    | none => m_op3 N xs ins aux pc ls st h
/-- the instruction at pc -/
def m_at : List mI → Nat → Option (Instr × List Int)
  | [], _ => none
  | (q, i, a) :: r, pc => if q = pc then some (i, a) else m_at r pc
def m_isRet : Instr → Bool
  | .ireturn | .lreturn | .areturn | .return_ => true
  | _ => false
/-- the answer, where the method returns -/
def m_ret (ret : Option FieldType) (ins : Instr) (st : List Value) : Option (Option Value) := match ins, st with
  | .return_, [] => match ret with
    | none => some none
    | _ => none
  | .ireturn, [.int v] => match ret with
    | some .int => some (some (.int v))
    | some .boolean => if v = 0 ∨ v = 1 then some (some (.int v)) else none
    | some .char => if v.toUInt32.toUInt16.toUInt32.toInt32 = v then some (some (.int v)) else none
    | some .byte => if v.toInt8.toInt32 = v then some (some (.int v)) else none
    | _ => none
  | .lreturn, [.long v] => match ret with
    | some .long => some (some (.long v))
    | _ => none
  | .areturn, [.ref j] => match ret with
    | some (.object _) => some (some (.ref j))
    | _ => none
  | .areturn, [.null] => match ret with
    | some (.object _) => some (some .null)
    | _ => none
  | _, _ => none
/-- is it a call of a method of the table: its place, how many values it takes from the stack -/
def m_call (tab : List mM) (ins : Instr) (aux : List Int) : Option (mM × Nat) := match ins, aux with
  | .invokestatic _, [y, n, _, _] => match tab[y.toNat]? with
    | some e => if e.1 = 0 then some (e, n.toNat) else none
    | none => none
  | .invokevirtual _, [y, n, _, _] => match tab[y.toNat]? with
    | some e => if e.1 = 1 then some (e, n.toNat + 1) else none
    | none => none
  | .invokespecial _, [y, n, _, _] => if y < 0 then none else match tab[y.toNat]? with
    | some e => if e.1 = 2 then some (e, n.toNat + 1) else none
    | none => none
  | _, _ => none
/-- the receiver is of the class that is meant -/
def m_recv (h : mH) (k rc : Nat) (as : List Value) : Bool :=
  if k = 0 then true else match as with
  | .ref j :: _ => if rc = 99 then decide (1000100 ≤ j ∧ j < 1000127) else (match h.1[j]? with
    | some (.inr (c, _)) => c == rc
    | _ => false)
  | _ => false
/-- the locals at a method's entry -/
def m_en : List Value → List (Option Value)
  | [] => []
  | .long x :: r => some (.long x) :: none :: m_en r
  | .double x :: r => some (.double x) :: none :: m_en r
  | v :: r => some v :: m_en r
def m_run (tab : List mM) (N : Nat) (xs : Nat → Int32) : Nat → Nat → mM → Nat → List (Option Value) → List Value → mH → Option (Option Value × mH)
  | 0, _, _, _, _, _, _ => none
  | n + 1, d, e, pc, ls, st, h => match m_at e.2.2.2.2.2.2.2 pc with
    | none => none
    | some (ins, aux) => match m_isRet ins with
      | true => match m_ret e.2.2.2.2.1 ins st with
        | some v => some (v, h)
        | none => none
      | false => match m_call tab ins aux with
        | some (y, k) => match d with
          | 0 => none
          | d' + 1 => if k ≤ st.length ∧ ((st.drop k).map fun v => v.category).sum ≤ 8 ∧ m_recv h y.1 y.2.2.2.2.2.1 (st.take k).reverse = true ∧ (m_en (st.take k).reverse).length ≤ y.2.2.2.1 then
              match m_run tab N xs n d' y 0 (m_en (st.take k).reverse ++ List.replicate (y.2.2.2.1 - (m_en (st.take k).reverse).length) none) [] h with
              | some (v, h') => m_run tab N xs n (d' + 1) e (pc + 3) ls (v.toList ++ st.drop k) h'
              | none => none
            else none
        | none => match m_op N xs ins aux pc ls st h with
          | some (pc', ls', st', h') => m_run tab N xs n d e pc' ls' st' h'
          | none => none
end
section
/-! THE SMALL MACHINE'S HEAP AND THE REAL ONE -/
/-- where a cell's number lies: the world's cells one behind the other from base on; the script; the static row; the Strings, their bytes -/
def m_ad (base b tU : Nat) (adK adV : Nat → Nat) (j : Nat) : Nat := if j < 1000000 then base + j else if j = 1000000 then b else if j = 1000001 then tU else if j < 1000200 then adK (j - 1000100) else adV (j - 1000200)
def m_v (ad : Nat → Nat) (vF : Value) : Value → Value
  | .ref j => .ref (ad j)
  | .retAddr _ => vF
  | v => v
def m_fv (ad : Nat → Nat) (di : Nat → Int32) (li : Nat → Int64) (k : Nat) : Value → Value
  | .int _ => .int (di k)
  | .long _ => .long (li k)
  | .ref j => .ref (ad j)
  | w => w
def m_fs (ad : Nat → Nat) (di : Nat → Int32) (li : Nat → Int64) : Nat → List Value → List Value
  | _, [] => []
  | k, v :: r => m_fv ad di li k v :: m_fs ad di li (k + 1) r
theorem m_fs_get (ad : Nat → Nat) (di : Nat → Int32) (li : Nat → Int64) : ∀ (fs : List Value) (k j : Nat), (m_fs ad di li k fs)[j]? = (fs[j]?).map (m_fv ad di li (k + j)) := by
  intro fs
  induction fs with
  | nil => intro k j; simp [m_fs]
  | cons v r ih =>
    intro k j
    cases j with
    | zero => simp [m_fs]
    | succ j => simp only [m_fs, List.getElem?_cons_succ]; rw [ih, show k + 1 + j = k + (j + 1) by omega]
theorem m_fs_len (ad : Nat → Nat) (di : Nat → Int32) (li : Nat → Int64) : ∀ (fs : List Value) (k : Nat), (m_fs ad di li k fs).length = fs.length := by
  intro fs
  induction fs with
  | nil => intro k; simp [m_fs]
  | cons v r ih => intro k; simp [m_fs, ih]
def m_cell (dA : Nat → Nat) (ad : Nat → Nat) (D : Nat → Nat → Int32) (L : Nat → Nat → Int64) (i : Nat) : mS → va_E
  | .inl (k, n, q) => .inl (dA k, n, match k with
    | 0 => .inl (D i)
    | 1 => .inr (.inl (L i))
    | _ => .inr (.inr (.inr (.inr (fun j => (q.getD j none).map ad)))))
  | .inr (c, fs) => .inr (c, m_fs ad (D i) (L i) 0 fs)
def m_ws (dA : Nat → Nat) (ad : Nat → Nat) (h : mH) : va_W := h.1.mapIdx fun i s => (ad i, m_cell dA ad h.2.1 h.2.2 i s)
theorem m_ws_len (dA ad : Nat → Nat) (h : mH) : (m_ws dA ad h).length = h.1.length := by simp [m_ws]
theorem m_ws_get {dA ad : Nat → Nat} {h : mH} {i : Nat} {s : mS} (hs : h.1[i]? = some s) : (m_ws dA ad h)[i]? = some (ad i, m_cell dA ad h.2.1 h.2.2 i s) := by
  simp [m_ws, hs]
theorem m_ws_set {dA ad : Nat → Nat} {h h' : mH} {i : Nat} {e : va_E} (ho : ∀ j, j ≠ i → (h.1[j]?).map (m_cell dA ad h.2.1 h.2.2 j) = (h'.1[j]?).map (m_cell dA ad h'.2.1 h'.2.2 j)) (hi : (h'.1[i]?).map (m_cell dA ad h'.2.1 h'.2.2 i) = some e) (hl : i < h.1.length) : (m_ws dA ad h).set i (ad i, e) = m_ws dA ad h' := by
  apply List.ext_getElem?
  intro j
  by_cases hj : j = i
  · subst hj
    rw [List.getElem?_set_self (by rw [m_ws_len]; exact hl)]
    cases hz : h'.1[j]? with
    | none => rw [hz] at hi; cases hi
    | some z => rw [hz] at hi; rw [m_ws_get hz]; simp only [Option.map_some, Option.some.injEq] at hi; rw [hi]
  · rw [List.getElem?_set_ne (Ne.symm hj)]
    have h1 := ho j hj
    cases hz : h.1[j]? with
    | none =>
      rw [hz] at h1
      cases hz' : h'.1[j]? with
      | none => simp [m_ws, hz, hz']
      | some z => rw [hz'] at h1; cases h1
    | some z =>
      rw [hz] at h1
      cases hz' : h'.1[j]? with
      | none => rw [hz'] at h1; cases h1
      | some z' =>
        rw [hz'] at h1
        simp only [Option.map_some, Option.some.injEq] at h1
        rw [m_ws_get hz, m_ws_get hz', h1]
theorem m_ws_push {dA ad : Nat → Nat} {h : mH} {s : mS} {D : Nat → Nat → Int32} {L : Nat → Nat → Int64} (hD : ∀ i, i < h.1.length → D i = h.2.1 i) (hL : ∀ i, i < h.1.length → L i = h.2.2 i) : m_ws dA ad h ++ [(ad h.1.length, m_cell dA ad D L h.1.length s)] = m_ws dA ad (h.1 ++ [s], D, L) := by
  simp only [m_ws]
  rw [List.mapIdx_append]
  congr 1
  · apply List.ext_getElem?
    intro j
    simp only [List.getElem?_mapIdx]
    cases hz : h.1[j]? with
    | none => rfl
    | some z =>
      have hlt := (List.getElem?_eq_some_iff.mp hz).1
      simp only [Option.map_some, Option.some.injEq, Prod.mk.injEq, true_and]
      cases z with
      | inl a => obtain ⟨k, n, q⟩ := a; simp only [m_cell, hD j hlt, hL j hlt]
      | inr a => obtain ⟨c, fs⟩ := a; simp only [m_cell, hD j hlt, hL j hlt]
  · simp
theorem m_sl_app (a b : List mS) : m_sl (a ++ b) = m_sl a + m_sl b := by
  induction a with
  | nil => simp [m_sl]
  | cons x r ih => simp only [List.cons_append, m_sl, ih]; omega
theorem m_sl_set {a : List mS} {i : Nat} {x y : mS} (hx : a[i]? = some x) (he : m_sl1 y = m_sl1 x) : m_sl (a.set i y) = m_sl a := by
  induction a generalizing i with
  | nil => simp at hx
  | cons z r ih =>
    cases i with
    | zero => simp at hx; subst hx; simp [m_sl, he]
    | succ i => simp at hx; simp only [List.set_cons_succ, m_sl, ih hx]
/-- writing an int field -/
theorem m_fs_seti {ad : Nat → Nat} {di di' : Nat → Int32} {li : Nat → Int64} {fs : List Value} {k : Nat} {z x : Int32} (hk : fs[k]? = some (.int z)) (hd : ∀ j, di' j = if j = k then x else di j) : (m_fs ad di li 0 fs).set k (.int x) = m_fs ad di' li 0 fs := by
  apply List.ext_getElem?
  intro j
  have hl := (List.getElem?_eq_some_iff.mp hk).1
  by_cases hj : j = k
  · subst hj
    rw [List.getElem?_set_self (by rw [m_fs_len]; exact hl), m_fs_get, hk]
    simp [m_fv, hd]
  · rw [List.getElem?_set_ne (Ne.symm hj), m_fs_get, m_fs_get]
    cases hz : fs[j]? with
    | none => rfl
    | some v => cases v <;> simp [m_fv, hd, hj]
theorem m_fs_setl {ad : Nat → Nat} {di : Nat → Int32} {li li' : Nat → Int64} {fs : List Value} {k : Nat} {z x : Int64} (hk : fs[k]? = some (.long z)) (hd : ∀ j, li' j = if j = k then x else li j) : (m_fs ad di li 0 fs).set k (.long x) = m_fs ad di li' 0 fs := by
  apply List.ext_getElem?
  intro j
  have hl := (List.getElem?_eq_some_iff.mp hk).1
  by_cases hj : j = k
  · subst hj
    rw [List.getElem?_set_self (by rw [m_fs_len]; exact hl), m_fs_get, hk]
    simp [m_fv, hd]
  · rw [List.getElem?_set_ne (Ne.symm hj), m_fs_get, m_fs_get]
    cases hz : fs[j]? with
    | none => rfl
    | some v => cases v <;> simp [m_fv, hd, hj]
theorem m_fs_setr {ad : Nat → Nat} {di : Nat → Int32} {li : Nat → Int64} {fs : List Value} {k q : Nat} {v : Value} (hk : fs[k]? = some v) : (m_fs ad di li 0 fs).set k (.ref (ad q)) = m_fs ad di li 0 (fs.set k (.ref q)) := by
  apply List.ext_getElem?
  intro j
  have hl := (List.getElem?_eq_some_iff.mp hk).1
  by_cases hj : j = k
  · subst hj
    rw [List.getElem?_set_self (by rw [m_fs_len]; exact hl), m_fs_get, List.getElem?_set_self hl]
    simp [m_fv]
  · rw [List.getElem?_set_ne (Ne.symm hj), m_fs_get, m_fs_get, List.getElem?_set_ne (Ne.symm hj)]
theorem m_mu_self (D : Nat → Nat → Int32) (i k : Nat) (x : Int32) : mu D i k x i = upd (D i) k x := by
  simp only [mu, if_true]; rfl
theorem m_mu_ne (D : Nat → Nat → Int32) {i j : Nat} (k : Nat) (x : Int32) (h : j ≠ i) : mu D i k x j = D j := by
  simp only [mu, if_neg h]
theorem m_muL_self (D : Nat → Nat → Int64) (i k : Nat) (x : Int64) : muL D i k x i = vp_updL (D i) k x := by
  simp only [muL, if_true]; rfl
theorem m_muL_ne (D : Nat → Nat → Int64) {i j : Nat} (k : Nat) (x : Int64) (h : j ≠ i) : muL D i k x j = D j := by
  simp only [muL, if_neg h]
theorem m_cell_eq {dA ad : Nat → Nat} {D D' : Nat → Nat → Int32} {L L' : Nat → Nat → Int64} {i : Nat} (s : mS) (hD : D' i = D i) (hL : L' i = L i) : m_cell dA ad D L i s = m_cell dA ad D' L' i s := by
  cases s with
  | inl a => obtain ⟨k, n, q⟩ := a; simp only [m_cell, hD, hL]
  | inr a => obtain ⟨c, fs⟩ := a; simp only [m_cell, hD, hL]
/-- locals -/
def m_LH (ad : Nat → Nat) (vF : Value) (ls : Array Slot) (nL : Nat) (l : List (Option Value)) : Prop := ls.size = nL ∧ lv_wf ls ∧ ∀ (i : Nat) (v : Value), l[i]? = some (some v) → ls[i]? = some (.val (m_v ad vF v))
def m_lv (ad : Nat → Nat) (vF : Value) : Nat → List (Option Value) → List (Nat × Value)
  | _, [] => []
  | i, none :: r => m_lv ad vF (i + 1) r
  | i, some v :: r => (i, m_v ad vF v) :: m_lv ad vF (i + 1) r
theorem m_lv_mem (ad : Nat → Nat) (vF : Value) : ∀ (l : List (Option Value)) (i : Nat) (q : Nat × Value), q ∈ m_lv ad vF i l ↔ ∃ j v, l[j]? = some (some v) ∧ q = (i + j, m_v ad vF v) := by
  intro l
  induction l with
  | nil => intro i q; simp [m_lv]
  | cons a r ih =>
    intro i q
    have step : ∀ (z : Option Value), (∃ j v, r[j]? = some (some v) ∧ q = (i + 1 + j, m_v ad vF v)) ↔ ∃ j v, (z :: r)[j + 1]? = some (some v) ∧ q = (i + (j + 1), m_v ad vF v) := by
      intro z
      constructor
      · rintro ⟨j, v, h1, h2⟩; exact ⟨j, v, by simpa using h1, by rw [h2, show i + 1 + j = i + (j + 1) by omega]⟩
      · rintro ⟨j, v, h1, h2⟩; exact ⟨j, v, by simpa using h1, by rw [h2, show i + 1 + j = i + (j + 1) by omega]⟩
    cases a with
    | none =>
      simp only [m_lv]
      rw [ih, step none]
      constructor
      · rintro ⟨j, v, h1, h2⟩; exact ⟨j + 1, v, h1, h2⟩
      · rintro ⟨j, v, h1, h2⟩
        cases j with
        | zero => simp at h1
        | succ j => exact ⟨j, v, h1, h2⟩
    | some w =>
      simp only [m_lv, List.mem_cons]
      rw [ih, step (some w)]
      constructor
      · rintro (h | ⟨j, v, h1, h2⟩)
        · exact ⟨0, w, by simp, by simpa using h⟩
        · exact ⟨j + 1, v, h1, h2⟩
      · rintro ⟨j, v, h1, h2⟩
        cases j with
        | zero => left; simp at h1; subst h1; simpa using h2
        | succ j => exact Or.inr ⟨j, v, h1, h2⟩
theorem m_LH.has {ad : Nat → Nat} {vF : Value} {ls : Array Slot} {nL : Nat} {l : List (Option Value)} (h : m_LH ad vF ls nL l) : lv_has ls nL (m_lv ad vF 0 l) := by
  refine ⟨h.1, h.2.1, fun q hq => ?_⟩
  obtain ⟨j, v, h1, rfl⟩ := (m_lv_mem ad vF l 0 q).mp hq
  simpa using h.2.2 j v h1
theorem m_LH.of {ad : Nat → Nat} {vF : Value} {ls : Array Slot} {nL : Nat} {l : List (Option Value)} {lv : List (Nat × Value)} (h : lv_has ls nL lv) (hl : ∀ (i : Nat) (v : Value), l[i]? = some (some v) → (i, m_v ad vF v) ∈ lv) : m_LH ad vF ls nL l :=
  ⟨h.1, h.2.1, fun i v hv => h.2.2 _ (hl i v hv)⟩
/-- behind a store of one place: what the machine still knows is among what the row gives -/
theorem m_s1_ok {ad : Nat → Nat} {vF : Value} {l l' : List (Option Value)} {i : Nat} {v : Value} (hc : ∀ w : Value, (m_v ad vF w).category = 2 → ∃ x, w = .long x ∨ ∃ y, w = .double y) (h : m_s1 l i v = some l') : i < l.length ∧ ∀ (j : Nat) (w : Value), l'[j]? = some (some w) → (j, m_v ad vF w) ∈ (i, m_v ad vF v) :: (m_lv ad vF 0 l).filter (fun q => !(q.1 == i) && !(q.1 + 1 == i && q.2.category == 2)) := by
  unfold m_s1 at h
  split at h
  · next hi =>
    refine ⟨hi, fun j w hw => ?_⟩
    have key : ∀ l2 : List (Option Value), (∀ j w, l2[j]? = some (some w) → j = i ∧ w = v ∨ (j ≠ i ∧ l[j]? = some (some w) ∧ (j + 1 = i → ¬ (m_v ad vF w).category = 2))) → l2[j]? = some (some w) → (j, m_v ad vF w) ∈ (i, m_v ad vF v) :: (m_lv ad vF 0 l).filter (fun q => !(q.1 == i) && !(q.1 + 1 == i && q.2.category == 2)) := by
      intro l2 hk hj
      rcases hk j w hj with ⟨rfl, rfl⟩ | ⟨h1, h2, h3⟩
      · exact List.mem_cons_self
      · refine List.mem_cons_of_mem _ (List.mem_filter.mpr ⟨(m_lv_mem ad vF l 0 _).mpr ⟨j, w, h2, by simp⟩, ?_⟩)
        by_cases h4 : j + 1 = i
        · have := h3 h4
          simp [h1, this]
        · simp [h1, h4]
    have hset : ∀ (n : Nat), i = n → ∀ j w, (l.set n (some v))[j]? = some (some w) → j = i ∧ w = v ∨ (j ≠ i ∧ l[j]? = some (some w)) := by
      rintro n rfl j w hj
      by_cases hji : j = i
      · subst hji
        rw [List.getElem?_set_self hi] at hj
        simp at hj
        exact Or.inl ⟨rfl, hj.symm⟩
      · rw [List.getElem?_set_ne (Ne.symm hji)] at hj
        exact Or.inr ⟨hji, hj⟩
    cases i with
    | zero =>
      simp only [Option.some.injEq] at h
      subst h
      refine key _ (fun j w hj => ?_) hw
      rcases hset 0 rfl j w hj with h1 | ⟨h1, h2⟩
      · exact Or.inl h1
      · exact Or.inr ⟨h1, h2, fun z => by omega⟩
    | succ k =>
      simp only at h
      split at h
      · next x hk =>
        simp only [Option.some.injEq] at h
        subst h
        refine key _ (fun j w hj => ?_) hw
        by_cases hjk : j = k
        · subst hjk
          by_cases hlt : j < (l.set (j + 1) (some v)).length
          · rw [List.getElem?_set_self hlt] at hj; cases hj
          · rw [List.getElem?_eq_none (by simpa using hlt)] at hj; cases hj
        · rw [List.getElem?_set_ne (Ne.symm hjk)] at hj
          rcases hset (k + 1) rfl j w hj with h1 | ⟨h1, h2⟩
          · exact Or.inl h1
          · exact Or.inr ⟨h1, h2, fun z => by omega⟩
      · cases h
      · next n1 n2 =>
        simp only [Option.some.injEq] at h
        subst h
        refine key _ (fun j w hj => ?_) hw
        rcases hset (k + 1) rfl j w hj with h1 | ⟨h1, h2⟩
        · exact Or.inl h1
        · refine Or.inr ⟨h1, h2, fun z hc2 => ?_⟩
          have hjk : j = k := by omega
          subst hjk
          obtain ⟨x, rfl | ⟨y, rfl⟩⟩ := hc w hc2
          · exact n1 x h2
          · exact n2 y h2
  · cases h
theorem m_s2_ok {ad : Nat → Nat} {vF : Value} {l l' : List (Option Value)} {i : Nat} {v : Value} (hc : ∀ w : Value, (m_v ad vF w).category = 2 → ∃ x, w = .long x ∨ ∃ y, w = .double y) (h : m_s2 l i v = some l') : i + 1 < l.length ∧ ∀ (j : Nat) (w : Value), l'[j]? = some (some w) → (j, m_v ad vF w) ∈ (i, m_v ad vF v) :: (m_lv ad vF 0 l).filter (fun q => !(q.1 == i) && (!(q.1 == i + 1) && !(q.1 + 1 == i && q.2.category == 2))) := by
  unfold m_s2 at h
  split at h
  · next hi =>
    refine ⟨hi, fun j w hw => ?_⟩
    have key : ∀ l2 : List (Option Value), (∀ j w, l2[j]? = some (some w) → j = i ∧ w = v ∨ (j ≠ i ∧ j ≠ i + 1 ∧ l[j]? = some (some w) ∧ (j + 1 = i → ¬ (m_v ad vF w).category = 2))) → l2[j]? = some (some w) → (j, m_v ad vF w) ∈ (i, m_v ad vF v) :: (m_lv ad vF 0 l).filter (fun q => !(q.1 == i) && (!(q.1 == i + 1) && !(q.1 + 1 == i && q.2.category == 2))) := by
      intro l2 hk hj
      rcases hk j w hj with ⟨rfl, rfl⟩ | ⟨h1, h0, h2, h3⟩
      · exact List.mem_cons_self
      · refine List.mem_cons_of_mem _ (List.mem_filter.mpr ⟨(m_lv_mem ad vF l 0 _).mpr ⟨j, w, h2, by simp⟩, ?_⟩)
        by_cases h4 : j + 1 = i
        · have := h3 h4
          simp [h1, h0, this]
        · simp [h1, h0, h4]
    have hset : ∀ (n : Nat), i = n → ∀ j w, ((l.set n (some v)).set (n + 1) none)[j]? = some (some w) → j = i ∧ w = v ∨ (j ≠ i ∧ j ≠ i + 1 ∧ l[j]? = some (some w)) := by
      rintro n rfl j w hj
      by_cases hj1 : j = i + 1
      · subst hj1
        rw [List.getElem?_set_self (by simpa using hi)] at hj
        cases hj
      · rw [List.getElem?_set_ne (Ne.symm hj1)] at hj
        by_cases hji : j = i
        · subst hji
          rw [List.getElem?_set_self (by omega)] at hj
          simp at hj
          exact Or.inl ⟨rfl, hj.symm⟩
        · rw [List.getElem?_set_ne (Ne.symm hji)] at hj
          exact Or.inr ⟨hji, hj1, hj⟩
    cases i with
    | zero =>
      simp only [Option.some.injEq] at h
      subst h
      refine key _ (fun j w hj => ?_) hw
      rcases hset 0 rfl j w hj with h1 | ⟨h1, h0, h2⟩
      · exact Or.inl h1
      · exact Or.inr ⟨h1, h0, h2, fun z => by omega⟩
    | succ k =>
      simp only at h
      split at h
      · next x hk =>
        simp only [Option.some.injEq] at h
        subst h
        refine key _ (fun j w hj => ?_) hw
        by_cases hjk : j = k
        · subst hjk
          by_cases hlt : j < ((l.set (j + 1) (some v)).set (j + 2) none).length
          · rw [List.getElem?_set_self hlt] at hj; cases hj
          · rw [List.getElem?_eq_none (by simpa using hlt)] at hj; cases hj
        · rw [List.getElem?_set_ne (Ne.symm hjk)] at hj
          rcases hset (k + 1) rfl j w hj with h1 | ⟨h1, h0, h2⟩
          · exact Or.inl h1
          · exact Or.inr ⟨h1, h0, h2, fun z => by omega⟩
      · cases h
      · next n1 n2 =>
        simp only [Option.some.injEq] at h
        subst h
        refine key _ (fun j w hj => ?_) hw
        rcases hset (k + 1) rfl j w hj with h1 | ⟨h1, h0, h2⟩
        · exact Or.inl h1
        · refine Or.inr ⟨h1, h0, h2, fun z hc2 => ?_⟩
          have hjk : j = k := by omega
          subst hjk
          obtain ⟨x, rfl | ⟨y, rfl⟩⟩ := hc w hc2
          · exact n1 x h2
          · exact n2 y h2
  · cases h
end
section
/-! THE SMALL MACHINE IS THE REAL ONE: instruction by instruction -/
def m_TW : List Cond := lw_tbl.filter goodWord
theorem m_TW_in {i : Nat} {w : Cond} (h : lw_tbl[i]? = some w) (hg : goodWord w = true) : w ∈ m_TW := List.mem_filter.mpr ⟨List.mem_of_getElem? h, hg⟩
def m_w (i : Int) (w : Cond) : Bool := decide (lw_tbl[i.toNat]? = some w) && goodWord w
theorem m_w_in {i : Int} {w : Cond} (h : m_w i w = true) : w ∈ m_TW := by
  simp only [m_w, Bool.and_eq_true, decide_eq_true_eq] at h
  exact m_TW_in h.1 h.2
def m_nw (i : Int) (w : Cond) : Bool := decide (m_nest[i.toNat]? = some w)
theorem m_nw_in {i : Int} {w : Cond} (h : m_nw i w = true) : w ∈ m_nest := List.mem_of_getElem? (of_decide_eq_true h)
def m_isRefTy : FieldType → Bool
  | .object _ => true
  | .array _ => true
  | _ => false
def m_jmp (pc : Nat) (off : Int) : Bool := decide (0 ≤ (pc : Int) + off)
/-- what must be so of an instruction, beside its bytes: its words stand in the tables -/
def m_okI (own nm : String) (tab : List mM) (pc : Nat) (ins : Instr) (aux : List Int) : Bool := match ins, aux with
  | .ldc i, [0, v, pl] => m_w pl (.constant own i (Int32.ofInt v))
  | .ldc i, [1, k, _] => match m_str[k.toNat]? with
    | some (o, j, _) => decide (o = own) && decide (j = i)
    | none => false
  | .ldc_w i, [0, v, pl] => m_w pl (.constant own i (Int32.ofInt v))
  | .ldc2_w i, [v, pl] => m_w pl (.constantLong own i (Int64.ofInt v))
  | .getfield i, [c, k, pl, _, _] => match m_cl[c.toNat]? with
    | some (_, T, n) => decide (k.toNat < n) && m_w pl (.fieldLink own i (T k.toNat).1 (T k.toNat).2.1 (T k.toNat).2.2.1)
    | none => false
  | .getfield i, [-1, k, pl] => if k = 0 then m_w pl (.fieldLink own i "java/lang/String" "value" "[B") else m_w pl (.fieldLink own i "java/lang/String" "coder" "B")
  | .putfield i, [c, k, pl, kd, fin] => match m_cl[c.toNat]? with
    | some (_, T, n) => decide (k.toNat < n) && m_w pl (.fieldLink own i (T k.toNat).1 (T k.toNat).2.1 (T k.toNat).2.2.1) && (if fin = 1 then decide ((T k.toNat).2.2.2 = true) && decide (nm = "<init>") && decide ((T k.toNat).1 = own) else decide ((T k.toNat).2.2.2 = false)) && (if kd = 0 then decide (m_ty c.toNat k.toNat = .int) else if kd = 1 then decide (m_ty c.toNat k.toNat = .long) else if kd = 3 then decide (m_ty c.toNat k.toNat = .boolean) else m_isRefTy (m_ty c.toNat k.toNat))
    | none => false
  | .getstatic i, [0, pl] => m_nw pl (.fieldLinkNest own i "IsHeIn" "UNTOLD" "[I" "IsHeIn")
  | .getstatic i, [1, pl] => m_w pl (.fieldLink own i "java/lang/String" "COMPACT_STRINGS" "Z")
  | .getstatic i, [2, pl] => m_w pl (.fieldLink own i "jdk/internal/util/Preconditions" "SIOOBE_FORMATTER" "Ljava/util/function/BiFunction;")
  | .new i, [c, p1, p2, p3] => match m_cl[c.toNat]? with
    | some (C, _, n) => m_w p1 (.classLink own i C) && m_w p2 (.instantiable C n) && m_w p3 (.initialized C)
    | none => false
  | .newarray t, [pl] => m_w pl (.arrayClass (newarray.typeOf t))
  | .newarray _, _ => false
  | .anewarray i, [pl] => m_w pl (.classLink own i "IsHeIn$Moment")
  | .anewarray _, _ => false
  | .invokestatic i, [y, n, pl, nest] => match tab[y.toNat]? with
    | some e => (if nest = 0 then m_w pl (.methodLink own i e.2.1) else m_nw pl (.methodLinkNest own i e.2.1 "IsHeIn")) && decide ((parseMethodDescriptor e.2.1.desc).map (fun d => d.parameters.length) = some n.toNat)
    | none => true
  | .invokevirtual i, [y, n, pl, nest] => match tab[y.toNat]? with
    | some e => decide (nest = 0) && m_w pl (.methodLink own i e.2.1) && decide ((parseMethodDescriptor e.2.1.desc).map (fun d => d.parameters.length) = some n.toNat)
    | none => true
  | .invokespecial i, [y, n, pl, nest] => if y < 0 then m_w pl (.methodLink own i Lib.objectInit) else match tab[y.toNat]? with
    | some e => (if nest = 0 then m_w pl (.methodLink own i e.2.1) else m_nw pl (.methodLinkNest own i e.2.1 "IsHeIn")) && decide ((parseMethodDescriptor e.2.1.desc).map (fun d => d.parameters.length) = some n.toNat)
    | none => true
  | .goto off, _ => m_jmp pc off
  | .ifCond _ off, _ => m_jmp pc off
  | .if_icmp _ off, _ => m_jmp pc off
  | .ifnull off, _ => m_jmp pc off
  | .ifnonnull off, _ => m_jmp pc off
  | .tableswitch d _ _ offs, _ => m_jmp pc d && offs.toList.all (fun o => m_jmp pc o)
  | _, _ => true
theorem m_jmp_ok {pc : Nat} {off : Int} (h : m_jmp pc off = true) : (pc : Int) + off = (m_to pc off : Int) := by
  have h1 : 0 ≤ (pc : Int) + off := of_decide_eq_true h
  unfold m_to
  omega
def m_A (base : Nat) : Nat → Prop := fun q => base ≤ q
def m_tys (dA : Nat → Nat) : List (ClassId × FieldType) := [(dA 0, .int), (dA 1, .long), (dA 2, .object "IsHeIn$Moment")]
/-- what stands fixed beside the world: the tables, the script, the static row, the Strings -/
def m_Fx (ad : Nat → Nat) (base : Nat) (vF : Value) (dC : Nat → ClassId) (dI : Nat → Nat → Nat) (dA : Nat → Nat) (N : Nat) (xs : Nat → Int32) (U : State) (H : Heap) : Prop :=
  va_K (dC, dI) m_cl (m_tys dA) U ∧ (∀ w ∈ m_nest, va_Nw w U) ∧ va_AO "IsHeIn$Moment" U ∧ (va_X (ad 1000000) N xs U H ∧ ad 1000000 < H.size ∧ ad 1000000 < base) ∧
  va_T .int (ad 1000001) 5 (fun j => .int (m_unt.getD j 0)) (m_A base) U H ∧ va_Z "IsHeIn" "UNTOLD" "[I" (.ref (ad 1000001)) (m_A base) U H ∧ va_Z "java/lang/String" "COMPACT_STRINGS" "Z" (.int 1) (m_A base) U H ∧ va_Z "jdk/internal/util/Preconditions" "SIOOBE_FORMATTER" "Ljava/util/function/BiFunction;" vF (m_A base) U H ∧
  (∀ k, k < 27 → va_O "java/lang/String" (ad (1000100 + k)) (m_A base) U H ∧ va_OF "java/lang/String" "coder" "B" (.int 0) (ad (1000100 + k)) (m_A base) U H ∧ va_OF "java/lang/String" "value" "[B" (.ref (ad (1000200 + k))) (ad (1000100 + k)) (m_A base) U H ∧ va_T .byte (ad (1000200 + k)) (m_sb.getD k []).length (fun j => .int ((m_sb.getD k []).getD j 0)) (m_A base) U H) ∧
  (∀ k, k < 27 → ∀ q, m_str[k]? = some q → vk_R q.1 q.2.1 q.2.2 (ad (1000100 + k)) U) ∧ base ≤ H.size ∧ vF.category = 1 ∧ ∀ j, j < 1000000 → ad j = base + j
theorem m_v_cat {ad : Nat → Nat} {vF : Value} (h : vF.category = 1) (w : Value) : (m_v ad vF w).category = w.category := by
  cases w <;> simp [m_v, Value.category] <;> (try exact h)
theorem m_v_cat2 {ad : Nat → Nat} {vF : Value} (h : vF.category = 1) (w : Value) (hc : (m_v ad vF w).category = 2) : ∃ x, w = .long x ∨ ∃ y, w = .double y := by
  rw [m_v_cat h] at hc
  cases w with
  | long x => exact ⟨x, Or.inl rfl⟩
  | double y => exact ⟨0, Or.inr ⟨y, rfl⟩⟩
  | _ => simp [Value.category] at hc
section MS
variable {p : Program} {l : Launch} {e : Env} {R : Room} {s : State} {m : MethodId} {args : Array Value} {below : List Frame} {meth : Method} {c : Code} {H : Heap} {locs : List Loc} {cells slots : Nat} {Q : State → Prop}
variable {cc : ByteArray} {pc pc' nL : Nat} {lsA : Array Slot} {ls ls' : List (Option Value)} {st st' : List Value} {h h' : mH} {ins : Instr} {aux : List Int} {own nm : String} {tab : List mM}
variable {ad : Nat → Nat} {base : Nat} {vF : Value} {dC : Nat → ClassId} {dI : Nat → Nat → Nat} {dA : Nat → Nat} {N : Nat} {xs : Nat → Int32}
theorem m_li_ok {i : Nat} {x : Int32} (hL : m_LH ad vF lsA nL ls) (h : m_li ls i = some x) : lsA[i]? = some (.val (.int x)) := by
  unfold m_li at h
  split at h
  · next y hy => cases h; exact hL.2.2 i _ hy
  · cases h
theorem m_ll_ok {i : Nat} {x : Int64} (hL : m_LH ad vF lsA nL ls) (h : m_ll ls i = some x) : lsA[i]? = some (.val (.long x)) := by
  unfold m_ll at h
  split at h
  · next y hy => cases h; exact hL.2.2 i _ hy
  · cases h
theorem m_la_ok {i : Nat} {x : Value} (hL : m_LH ad vF lsA nL ls) (h : m_la ls i = some x) : (∃ j, x = .ref j ∧ lsA[i]? = some (.val (.ref (ad j)))) ∨ (x = .null ∧ lsA[i]? = some (.val .null)) := by
  unfold m_la at h
  split at h
  · next y hy => cases h; exact Or.inl ⟨y, rfl, hL.2.2 i _ hy⟩
  · next hy => cases h; exact Or.inr ⟨rfl, hL.2.2 i _ hy⟩
  · cases h
set_option maxHeartbeats 4000000 in
theorem m_op1_ok (hop : m_op1 ins aux pc ls st h = some (pc', ls', st', h')) (hd : decode cc pc = .ok (ins, m_len ins aux)) (hok : m_okI own nm tab pc ins aux = true) (hx : p.tables.exec = Jvm.exec) (hb : c.code = cc) (hown : s.vm.findClass own = some m.cls) (hts : ∀ w ∈ m_TW, w.before args s = true) (hF : m_Fx ad base vF dC dI dA N xs s s.heap) (hnL : ls.length = nL)
    (hL : m_LH ad vF lsA nL ls) (kk : h' = h → ls'.length = nL → ∀ lsA', m_LH ad vF lsA' nL ls' → W p l e R s m args below meth c H locs cells slots Q (F0 m pc' lsA' (st'.map (m_v ad vF)))) : W p l e R s m args below meth c H locs cells slots Q (F0 m pc lsA (st.map (m_v ad vF))) := by
  have hvF : vF.category = 1 := hF.2.2.2.2.2.2.2.2.2.2.2.1
  have hc2 := m_v_cat2 (ad := ad) hvF
  have s1len : ∀ {i : Nat} {v : Value} {l' : List (Option Value)}, m_s1 ls i v = some l' → l'.length = nL := by
    intro i v l' q
    unfold m_s1 at q
    split at q
    · split at q
      · cases q; simpa using hnL
      · split at q
        · cases q; simpa using hnL
        · cases q
        · cases q; simpa using hnL
    · cases q
  have s2len : ∀ {i : Nat} {v : Value} {l' : List (Option Value)}, m_s2 ls i v = some l' → l'.length = nL := by
    intro i v l' q
    unfold m_s2 at q
    split at q
    · split at q
      · cases q; simpa using hnL
      · split at q
        · cases q; simpa using hnL
        · cases q
        · cases q; simpa using hnL
    · cases q
  cases ins <;> try (simp [m_op1] at hop; done)
  case iconst n =>
    simp only [m_op1, Option.some.injEq, Prod.mk.injEq] at hop
    obtain ⟨rfl, rfl, rfl, rfl⟩ := hop
    exact lv_iconst hx hb hd rfl (kk rfl hnL lsA hL)
  case bipush n =>
    simp only [m_op1, Option.some.injEq, Prod.mk.injEq] at hop
    obtain ⟨rfl, rfl, rfl, rfl⟩ := hop
    exact lv_bipush hx hb hd rfl (kk rfl hnL lsA hL)
  case sipush n =>
    simp only [m_op1, Option.some.injEq, Prod.mk.injEq] at hop
    obtain ⟨rfl, rfl, rfl, rfl⟩ := hop
    exact lv_sipush hx hb hd rfl (kk rfl hnL lsA hL)
  case lconst n =>
    simp only [m_op1, Option.some.injEq, Prod.mk.injEq] at hop
    obtain ⟨rfl, rfl, rfl, rfl⟩ := hop
    exact lv_lconst hx hb hd rfl (kk rfl hnL lsA hL)
  case aconst_null =>
    simp only [m_op1, Option.some.injEq, Prod.mk.injEq] at hop
    obtain ⟨rfl, rfl, rfl, rfl⟩ := hop
    exact lv_null hx hb hd (kk rfl hnL lsA hL)
  case ldc i =>
    unfold m_op1 at hop
    simp only at hop
    split at hop
    · next v pl =>
      simp only [Option.some.injEq, Prod.mk.injEq] at hop
      obtain ⟨rfl, rfl, rfl, rfl⟩ := hop
      exact lv_ldc hx hb hown (hts _ (m_w_in hok)) hd (kk rfl hnL lsA hL)
    · next k pl =>
      split at hop
      · next hk =>
        simp only [Option.some.injEq, Prod.mk.injEq] at hop
        obtain ⟨rfl, rfl, rfl, rfl⟩ := hop
        have hs := hF.2.2.2.2.2.2.2.2.2.1 k.toNat hk
        simp only [m_okI] at hok
        split at hok
        · next o j t hq =>
          simp only [Bool.and_eq_true, decide_eq_true_eq] at hok
          obtain ⟨rfl, rfl⟩ := hok
          exact va_ldcS hx hb hown (hs _ hq) hd (kk rfl hnL lsA hL)
        · cases hok
      · cases hop
    · cases hop
  case ldc_w i =>
    unfold m_op1 at hop
    simp only at hop
    split at hop
    · next v pl =>
      simp only [Option.some.injEq, Prod.mk.injEq] at hop
      obtain ⟨rfl, rfl, rfl, rfl⟩ := hop
      exact lv_ldcw hx hb hown (hts _ (m_w_in hok)) hd (kk rfl hnL lsA hL)
    · cases hop
  case ldc2_w i =>
    unfold m_op1 at hop
    simp only at hop
    split at hop
    · next v pl =>
      simp only [Option.some.injEq, Prod.mk.injEq] at hop
      obtain ⟨rfl, rfl, rfl, rfl⟩ := hop
      exact lv_ldc2 hx hb hown (hts _ (m_w_in hok)) hd (kk rfl hnL lsA hL)
    · cases hop
  case iload_n k =>
    simp only [m_op1] at hop
    split at hop
    · next x hq =>
      simp only [Option.some.injEq, Prod.mk.injEq] at hop
      obtain ⟨rfl, rfl, rfl, rfl⟩ := hop
      exact lv_iload_n hx hb hd rfl (m_li_ok hL hq) (kk rfl hnL lsA hL)
    · cases hop
  case iload k =>
    simp only [m_op1] at hop
    split at hop
    · next x hq =>
      simp only [Option.some.injEq, Prod.mk.injEq] at hop
      obtain ⟨rfl, rfl, rfl, rfl⟩ := hop
      exact lv_iload hx hb hd (m_li_ok hL hq) (kk rfl hnL lsA hL)
    · cases hop
  case lload_n k =>
    simp only [m_op1] at hop
    split at hop
    · next x hq =>
      simp only [Option.some.injEq, Prod.mk.injEq] at hop
      obtain ⟨rfl, rfl, rfl, rfl⟩ := hop
      exact lv_lload_n hx hb hd rfl (m_ll_ok hL hq) (kk rfl hnL lsA hL)
    · cases hop
  case lload k =>
    simp only [m_op1] at hop
    split at hop
    · next x hq =>
      simp only [Option.some.injEq, Prod.mk.injEq] at hop
      obtain ⟨rfl, rfl, rfl, rfl⟩ := hop
      exact lv_lload hx hb hd (m_ll_ok hL hq) (kk rfl hnL lsA hL)
    · cases hop
  case aload_n k =>
    simp only [m_op1] at hop
    split at hop
    · next x hq =>
      simp only [Option.some.injEq, Prod.mk.injEq] at hop
      obtain ⟨rfl, rfl, rfl, rfl⟩ := hop
      rcases m_la_ok hL hq with ⟨j, rfl, h1⟩ | ⟨rfl, h1⟩
      · exact lv_aload_n hx hb hd rfl h1 (kk rfl hnL lsA hL)
      · exact lv_aload_nN hx hb hd rfl h1 (kk rfl hnL lsA hL)
    · cases hop
  case aload k =>
    simp only [m_op1] at hop
    split at hop
    · next x hq =>
      simp only [Option.some.injEq, Prod.mk.injEq] at hop
      obtain ⟨rfl, rfl, rfl, rfl⟩ := hop
      rcases m_la_ok hL hq with ⟨j, rfl, h1⟩ | ⟨rfl, h1⟩
      · exact lv_aload hx hb hd h1 (kk rfl hnL lsA hL)
      · exact lv_aloadN hx hb hd h1 (kk rfl hnL lsA hL)
    · cases hop
  case istore_n k =>
    simp only [m_op1] at hop
    split at hop
    · next x r =>
      split at hop
      · next l hq =>
        simp only [Option.some.injEq, Prod.mk.injEq] at hop
        obtain ⟨rfl, rfl, rfl, rfl⟩ := hop
        obtain ⟨h1, h2⟩ := m_s1_ok (vF := vF) hc2 hq
        exact lv_istore_n hx hb hd rfl hL.has (hnL ▸ h1) rfl (fun ls2 h3 => kk rfl (s1len hq) ls2 (m_LH.of h3 h2))
      · cases hop
    · cases hop
  case istore k =>
    simp only [m_op1] at hop
    split at hop
    · next x r =>
      split at hop
      · next l hq =>
        simp only [Option.some.injEq, Prod.mk.injEq] at hop
        obtain ⟨rfl, rfl, rfl, rfl⟩ := hop
        obtain ⟨h1, h2⟩ := m_s1_ok (vF := vF) hc2 hq
        exact lv_istore hx hb hd hL.has (hnL ▸ h1) rfl (fun ls2 h3 => kk rfl (s1len hq) ls2 (m_LH.of h3 h2))
      · cases hop
    · cases hop
  case lstore_n k =>
    simp only [m_op1] at hop
    split at hop
    · next x r =>
      split at hop
      · next l hq =>
        simp only [Option.some.injEq, Prod.mk.injEq] at hop
        obtain ⟨rfl, rfl, rfl, rfl⟩ := hop
        obtain ⟨h1, h2⟩ := m_s2_ok (vF := vF) hc2 hq
        exact lv_lstore_n hx hb hd rfl hL.has (hnL ▸ h1) rfl (fun ls2 h3 => kk rfl (s2len hq) ls2 (m_LH.of h3 h2))
      · cases hop
    · cases hop
  case lstore k =>
    simp only [m_op1] at hop
    split at hop
    · next x r =>
      split at hop
      · next l hq =>
        simp only [Option.some.injEq, Prod.mk.injEq] at hop
        obtain ⟨rfl, rfl, rfl, rfl⟩ := hop
        obtain ⟨h1, h2⟩ := m_s2_ok (vF := vF) hc2 hq
        exact lv_lstore hx hb hd hL.has (hnL ▸ h1) rfl (fun ls2 h3 => kk rfl (s2len hq) ls2 (m_LH.of h3 h2))
      · cases hop
    · cases hop
  case astore_n k =>
    simp only [m_op1] at hop
    split at hop
    · next x r =>
      split at hop
      · next l hq =>
        simp only [Option.some.injEq, Prod.mk.injEq] at hop
        obtain ⟨rfl, rfl, rfl, rfl⟩ := hop
        obtain ⟨h1, h2⟩ := m_s1_ok (vF := vF) hc2 hq
        exact lv_astore_n hx hb hd rfl hL.has (hnL ▸ h1) rfl (fun ls2 h3 => kk rfl (s1len hq) ls2 (m_LH.of h3 h2))
      · cases hop
    · next r =>
      split at hop
      · next l hq =>
        simp only [Option.some.injEq, Prod.mk.injEq] at hop
        obtain ⟨rfl, rfl, rfl, rfl⟩ := hop
        obtain ⟨h1, h2⟩ := m_s1_ok (vF := vF) hc2 hq
        exact lv_astore_nN hx hb hd rfl hL.has (hnL ▸ h1) rfl (fun ls2 h3 => kk rfl (s1len hq) ls2 (m_LH.of h3 h2))
      · cases hop
    · cases hop
  case astore k =>
    simp only [m_op1] at hop
    split at hop
    · next x r =>
      split at hop
      · next l hq =>
        simp only [Option.some.injEq, Prod.mk.injEq] at hop
        obtain ⟨rfl, rfl, rfl, rfl⟩ := hop
        obtain ⟨h1, h2⟩ := m_s1_ok (vF := vF) hc2 hq
        exact lv_astore hx hb hd hL.has (hnL ▸ h1) rfl (fun ls2 h3 => kk rfl (s1len hq) ls2 (m_LH.of h3 h2))
      · cases hop
    · next r =>
      split at hop
      · next l hq =>
        simp only [Option.some.injEq, Prod.mk.injEq] at hop
        obtain ⟨rfl, rfl, rfl, rfl⟩ := hop
        obtain ⟨h1, h2⟩ := m_s1_ok (vF := vF) hc2 hq
        exact lv_astoreN hx hb hd hL.has (hnL ▸ h1) rfl (fun ls2 h3 => kk rfl (s1len hq) ls2 (m_LH.of h3 h2))
      · cases hop
    · cases hop
  case iinc k n =>
    simp only [m_op1] at hop
    split at hop
    · next x hq0 =>
      split at hop
      · next l hq =>
        simp only [Option.some.injEq, Prod.mk.injEq] at hop
        obtain ⟨rfl, rfl, rfl, rfl⟩ := hop
        obtain ⟨h1, h2⟩ := m_s1_ok (vF := vF) hc2 hq
        have hm : (k, Value.int x) ∈ m_lv ad vF 0 ls := by
          unfold m_li at hq0
          split at hq0
          · next y hy => cases hq0; exact (m_lv_mem ad vF ls 0 _).mpr ⟨k, _, hy, by simp [m_v]⟩
          · cases hq0
        obtain ⟨i0, hi0⟩ := List.getElem?_of_mem hm
        exact lv_iinc hx hb hd hL.has hi0 rfl (hnL ▸ h1) rfl (fun ls2 h3 => kk rfl (s1len hq) ls2 (m_LH.of h3 h2))
      · cases hop
    · cases hop
end MS
end
section
section MS2
variable {p : Program} {l : Launch} {e : Env} {R : Room} {s : State} {m : MethodId} {args : Array Value} {below : List Frame} {meth : Method} {c : Code} {H : Heap} {locs : List Loc} {cells slots : Nat} {Q : State → Prop}
variable {cc : ByteArray} {pc pc' nL : Nat} {lsA : Array Slot} {ls ls' : List (Option Value)} {st st' : List Value} {h h' : mH} {ins : Instr} {aux : List Int} {own nm : String} {tab : List mM}
variable {ad : Nat → Nat} {base : Nat} {vF : Value} {dC : Nat → ClassId} {dI : Nat → Nat → Nat} {dA : Nat → Nat} {N : Nat} {xs : Nat → Int32}
set_option maxHeartbeats 4000000 in
theorem m_op2_ok (hop : m_op2 ins pc ls st h = some (pc', ls', st', h')) (hd : decode cc pc = .ok (ins, m_len ins aux)) (hok : m_okI own nm tab pc ins aux = true) (hx : p.tables.exec = Jvm.exec) (hb : c.code = cc)
    (kk : h' = h → ls' = ls → W p l e R s m args below meth c H locs cells slots Q (F0 m pc' lsA (st'.map (m_v ad vF)))) : W p l e R s m args below meth c H locs cells slots Q (F0 m pc lsA (st.map (m_v ad vF))) := by
  unfold m_op2 at hop
  split at hop
  · next y x r =>
    simp only [Option.some.injEq, Prod.mk.injEq] at hop
    obtain ⟨rfl, rfl, rfl, rfl⟩ := hop
    exact lv_iadd hx hb hd (kk rfl rfl)
  · next y x r =>
    simp only [Option.some.injEq, Prod.mk.injEq] at hop
    obtain ⟨rfl, rfl, rfl, rfl⟩ := hop
    exact lv_isub hx hb hd (kk rfl rfl)
  · next y x r =>
    simp only [Option.some.injEq, Prod.mk.injEq] at hop
    obtain ⟨rfl, rfl, rfl, rfl⟩ := hop
    exact lv_imul hx hb hd (kk rfl rfl)
  · next y x r =>
    simp only [Option.some.injEq, Prod.mk.injEq] at hop
    obtain ⟨rfl, rfl, rfl, rfl⟩ := hop
    exact lv_iand hx hb hd (kk rfl rfl)
  · next y x r =>
    simp only [Option.some.injEq, Prod.mk.injEq] at hop
    obtain ⟨rfl, rfl, rfl, rfl⟩ := hop
    exact lv_ior hx hb hd (kk rfl rfl)
  · next y x r =>
    split at hop
    · cases hop
    · next hne =>
      simp only [Option.some.injEq, Prod.mk.injEq] at hop
      obtain ⟨rfl, rfl, rfl, rfl⟩ := hop
      exact lv_idiv hx hb hd hne (kk rfl rfl)
  · next y x r =>
    split at hop
    · cases hop
    · next hne =>
      simp only [Option.some.injEq, Prod.mk.injEq] at hop
      obtain ⟨rfl, rfl, rfl, rfl⟩ := hop
      exact lv_irem hx hb hd hne (kk rfl rfl)
  · next x r =>
    simp only [Option.some.injEq, Prod.mk.injEq] at hop
    obtain ⟨rfl, rfl, rfl, rfl⟩ := hop
    exact lv_ineg hx hb hd (kk rfl rfl)
  · next y x r =>
    simp only [Option.some.injEq, Prod.mk.injEq] at hop
    obtain ⟨rfl, rfl, rfl, rfl⟩ := hop
    exact lv_ishl hx hb hd (kk rfl rfl)
  · next y x r =>
    simp only [Option.some.injEq, Prod.mk.injEq] at hop
    obtain ⟨rfl, rfl, rfl, rfl⟩ := hop
    exact lv_ishr hx hb hd (kk rfl rfl)
  · next y x r =>
    simp only [Option.some.injEq, Prod.mk.injEq] at hop
    obtain ⟨rfl, rfl, rfl, rfl⟩ := hop
    exact lv_iushr hx hb hd rfl (kk rfl rfl)
  · next y x r =>
    simp only [Option.some.injEq, Prod.mk.injEq] at hop
    obtain ⟨rfl, rfl, rfl, rfl⟩ := hop
    exact lv_ladd hx hb hd (kk rfl rfl)
  · next y x r =>
    simp only [Option.some.injEq, Prod.mk.injEq] at hop
    obtain ⟨rfl, rfl, rfl, rfl⟩ := hop
    exact lv_lsub hx hb hd (kk rfl rfl)
  · next y x r =>
    simp only [Option.some.injEq, Prod.mk.injEq] at hop
    obtain ⟨rfl, rfl, rfl, rfl⟩ := hop
    exact lv_lmul hx hb hd (kk rfl rfl)
  · next y x r =>
    split at hop
    · cases hop
    · next hne =>
      simp only [Option.some.injEq, Prod.mk.injEq] at hop
      obtain ⟨rfl, rfl, rfl, rfl⟩ := hop
      exact lv_ldiv hx hb hd hne (kk rfl rfl)
  · next y x r =>
    simp only [Option.some.injEq, Prod.mk.injEq] at hop
    obtain ⟨rfl, rfl, rfl, rfl⟩ := hop
    exact W.lcmp hx hb hd (kk rfl rfl)
  · next x r =>
    simp only [Option.some.injEq, Prod.mk.injEq] at hop
    obtain ⟨rfl, rfl, rfl, rfl⟩ := hop
    exact lv_i2l hx hb hd rfl (kk rfl rfl)
  · next x r =>
    simp only [Option.some.injEq, Prod.mk.injEq] at hop
    obtain ⟨rfl, rfl, rfl, rfl⟩ := hop
    exact lv_l2i hx hb hd rfl (kk rfl rfl)
  · next x r =>
    simp only [Option.some.injEq, Prod.mk.injEq] at hop
    obtain ⟨rfl, rfl, rfl, rfl⟩ := hop
    exact lv_i2c hx hb hd rfl (kk rfl rfl)
  · next x r =>
    simp only [Option.some.injEq, Prod.mk.injEq] at hop
    obtain ⟨rfl, rfl, rfl, rfl⟩ := hop
    exact lv_dup hx hb hd rfl (kk rfl rfl)
  · next x r =>
    simp only [Option.some.injEq, Prod.mk.injEq] at hop
    obtain ⟨rfl, rfl, rfl, rfl⟩ := hop
    exact lv_dup hx hb hd rfl (kk rfl rfl)
  · next x y r =>
    simp only [Option.some.injEq, Prod.mk.injEq] at hop
    obtain ⟨rfl, rfl, rfl, rfl⟩ := hop
    exact lv_dup2_11 hx hb hd rfl rfl (kk rfl rfl)
  · next x r =>
    simp only [Option.some.injEq, Prod.mk.injEq] at hop
    obtain ⟨rfl, rfl, rfl, rfl⟩ := hop
    exact lv_pop hx hb hd rfl (kk rfl rfl)
  · next off st =>
    simp only [Option.some.injEq, Prod.mk.injEq] at hop
    obtain ⟨rfl, rfl, rfl, rfl⟩ := hop
    exact lv_goto hx hb hd (m_jmp_ok hok) (kk rfl rfl)
  · next cnd off x r =>
    simp only [Option.some.injEq, Prod.mk.injEq] at hop
    obtain ⟨rfl, rfl, rfl, rfl⟩ := hop
    have kk := kk rfl rfl
    cases cnd <;> simp only [m_if] at kk
    · exact lv_if_eq hx hb hd (m_jmp_ok hok) (fun q => by rw [if_pos q] at kk; exact kk) (fun q => by rw [if_neg q] at kk; exact kk)
    · exact lv_if_ne hx hb hd (m_jmp_ok hok) (fun q => by rw [if_neg q] at kk; exact kk) (fun q => by rw [if_pos q] at kk; exact kk)
    · exact lv_if_lt hx hb hd (m_jmp_ok hok) (fun q => by rw [if_pos q] at kk; exact kk) (fun q => by rw [if_neg q] at kk; exact kk)
    · exact lv_if_ge hx hb hd (m_jmp_ok hok) (fun q => by rw [if_pos q] at kk; exact kk) (fun q => by rw [if_neg q] at kk; exact kk)
    · exact lv_if_gt hx hb hd (m_jmp_ok hok) (fun q => by rw [if_pos q] at kk; exact kk) (fun q => by rw [if_neg q] at kk; exact kk)
    · exact lv_if_le hx hb hd (m_jmp_ok hok) (fun q => by rw [if_pos q] at kk; exact kk) (fun q => by rw [if_neg q] at kk; exact kk)
  · next cnd off y x r =>
    simp only [Option.some.injEq, Prod.mk.injEq] at hop
    obtain ⟨rfl, rfl, rfl, rfl⟩ := hop
    have kk := kk rfl rfl
    cases cnd <;> simp only [m_if] at kk
    · exact lv_icmp_eq hx hb hd (m_jmp_ok hok) (fun q => by rw [if_pos q] at kk; exact kk) (fun q => by rw [if_neg q] at kk; exact kk)
    · exact lv_icmp_ne hx hb hd (m_jmp_ok hok) (fun q => by rw [if_neg q] at kk; exact kk) (fun q => by rw [if_pos q] at kk; exact kk)
    · exact lv_icmp_lt hx hb hd (m_jmp_ok hok) (fun q => by rw [if_pos q] at kk; exact kk) (fun q => by rw [if_neg q] at kk; exact kk)
    · exact lv_icmp_ge hx hb hd (m_jmp_ok hok) (fun q => by rw [if_pos q] at kk; exact kk) (fun q => by rw [if_neg q] at kk; exact kk)
    · exact lv_icmp_gt hx hb hd (m_jmp_ok hok) (fun q => by rw [if_pos q] at kk; exact kk) (fun q => by rw [if_neg q] at kk; exact kk)
    · exact lv_icmp_le hx hb hd (m_jmp_ok hok) (fun q => by rw [if_pos q] at kk; exact kk) (fun q => by rw [if_neg q] at kk; exact kk)
  · next off r =>
    simp only [Option.some.injEq, Prod.mk.injEq] at hop
    obtain ⟨rfl, rfl, rfl, rfl⟩ := hop
    exact lv_ifnullN hx hb hd (m_jmp_ok hok) (kk rfl rfl)
  · next off x r =>
    simp only [Option.some.injEq, Prod.mk.injEq] at hop
    obtain ⟨rfl, rfl, rfl, rfl⟩ := hop
    exact lv_ifnull hx hb hd (kk rfl rfl)
  · next off r =>
    simp only [Option.some.injEq, Prod.mk.injEq] at hop
    obtain ⟨rfl, rfl, rfl, rfl⟩ := hop
    exact lv_ifnonnullN hx hb hd (kk rfl rfl)
  · next off x r =>
    simp only [Option.some.injEq, Prod.mk.injEq] at hop
    obtain ⟨rfl, rfl, rfl, rfl⟩ := hop
    exact lv_ifnonnull hx hb hd (m_jmp_ok hok) (kk rfl rfl)
  · next d lo hi offs x r =>
    simp only [m_okI, Bool.and_eq_true, List.all_eq_true] at hok
    split at hop
    · next hq =>
      simp only [Option.some.injEq, Prod.mk.injEq] at hop
      obtain ⟨rfl, rfl, rfl, rfl⟩ := hop
      exact lv_tableOut hx hb hd hq (m_jmp_ok hok.1) (kk rfl rfl)
    · next hq =>
      split at hop
      · next o ho =>
        simp only [Option.some.injEq, Prod.mk.injEq] at hop
        obtain ⟨rfl, rfl, rfl, rfl⟩ := hop
        exact lv_tableIn hx hb hd (fun z => hq (Or.inl z)) (fun z => hq (Or.inr z)) (by rw [← Array.getElem?_toList]; exact ho) (m_jmp_ok (hok.2 o (List.mem_of_getElem? ho))) (kk rfl rfl)
      · cases hop
  · cases hop
end MS2
end
section
/-! rows that write, with what they say of the heap's size -/
section MR
variable {p : Program} {l : Launch} {e : Env} {R : Room} {s : State} {m : MethodId} {args : Array Value} {below : List Frame} {meth : Method} {c : Code} {H : Heap} {locs : List Loc} {cells slots : Nat} {Q : State → Prop}
variable {cc : ByteArray} {pc : Nat} {lsA : Array Slot} {rest : List Value} {D : va_G} {cl : List vw_C} {tys : List (ClassId × FieldType)} {ws : va_W} {A : Nat → Prop} {a : Nat}
theorem m_row_put (hx : p.tables.exec = Jvm.exec) (hb : c.code = cc) {own C : String} {T : u_T} {n ci index k : Nat} (hts : ∀ w ∈ u_ws C T n, w.before args s = true) (tyk : Nat → FieldType) (hty : ∀ k, k < n → parseFieldDescriptor (T k).2.2.1 = some (tyk k)) (hnm : ∀ a, a < n → ∀ b, b < n → a ≠ b → (T a).2.1 ≠ (T b).2.1) (hown : s.vm.findClass own = some m.cls) (hK : va_K D cl tys s) (hP : va_P D cl ws H) (hD : va_D A ws) (hS : va_S A s.heap H locs) {q0 : Nat} {fs : List Value} (he : ws[q0]? = some (a, .inr (ci, fs))) (hc : cl[ci]? = some (C, T, n)) (hk : k < n) (hlink : (Cond.fieldLink own index (T k).1 (T k).2.1 (T k).2.2.1).before args s = true)
    (hfin : (T k).2.2.2 = false ∨ ((T k).2.2.2 = true ∧ meth.name = "<init>" ∧ (T k).1 = own)) {v : Value} (hn : narrow (tyk k) v = v) (hfit : fits (tyk k) v = true) (hl : k < fs.length) (hdg : decode cc pc = .ok (.putfield index, 3))
    (kk : ∀ (H1 : Heap) (locs1 : List Loc), H1.size = H.size → va_P D cl (ws.set q0 (a, .inr (ci, fs.set k v))) H1 → va_S A s.heap H1 locs1 → W p l e R s m args below meth c H1 locs1 cells slots Q (F0 m (pc + 3) lsA rest)) : W p l e R s m args below meth c H locs cells slots Q (F0 m pc lsA (v :: .ref a :: rest)) := by
  have hap := va_apart (own := own) hts (fun w h => h) tyk hty hnm hK hc
  obtain ⟨r, h1, cell, q1, q2, q3, q4⟩ := hP q0 _ he
  cases Option.some.inj (h1.symm.trans hc)
  obtain ⟨hSl, hfc, kC, hkC, hkind⟩ := hK.1 ci _ hc
  obtain ⟨cf, kf, fi, f, hi, hsl⟩ := hSl k hk
  have hlay := hts _ (u_in_lay hk)
  have hst := (u_facts hfc hkC (u_lays hts (fun w h => h) hk) hi).1
  have fin : ∀ H' : Heap, H'[a]? = some (cell.setSlot f.slot v) → H'.size = H.size → (∀ q, q ≠ a → H'[q]? = H[q]?) → W p l e R s m args below meth c H' (locs ++ [⟨a, f.slot⟩]) cells slots Q { F0 m pc lsA (v :: .ref a :: rest) with pc := pc + 3, stack := rest } := by
    intro H' e1 e2 e3
    rw [hsl] at e1 ⊢
    exact kk H' _ e2 (hP.set hD he ⟨_, hc, t_OB.to (V := updV (vp_V fs) k v) ⟨_, e1, q2, q3, t_set q4 hap hk v⟩ (fun j _ => vp_updV_set hl v j)⟩ e3) (hS.put e2 e3 (hD.2 q0 _ he))
  have hslot : f.slot < cell.slots.size := by rw [hsl]; exact k2_hasslot (q4 k hk)
  rcases hfin with hf | ⟨hf, hin, hdecl⟩
  · unfold u_lay at hlay
    rw [if_neg (by rw [hf]; decide)] at hlay
    exact W.putK hx hb (f := f) ⟨hown, hlink, ⟨_, _, _, hi⟩, hst⟩ (by rw [q2]; exact u_store hfc hkC hkind hlay hi (hty k hk) hn hfit) q1 q3 hslot rfl rfl hdg fin
  · unfold u_lay at hlay
    rw [if_pos hf] at hlay
    have hcf : m.cls = cf := by
      obtain ⟨_, _, c', _, _, _, -, -, hf', -, -, -, hown2, -⟩ := Cond.laysFinal_spec hlay
      have e1 : c' = cf := by have := hi.symm.trans hf'; simp at this; exact this.1.symm
      rw [hdecl] at hown2
      rw [← e1]; exact Option.some.inj (hown.symm.trans hown2)
    exact W.putFinK hx hb hown hlink hi hst hcf hin (by rw [q2]; exact u_fits hfc hkC hkind (Or.inr hlay) hi (hty k hk) hn hfit) q1 q3 hslot rfl rfl hdg fin
theorem m_row_iast (hx : p.tables.exec = Jvm.exec) (hb : c.code = cc) (hK : va_K D cl tys s) (hP : va_P D cl ws H) (hD : va_D A ws) (hS : va_S A s.heap H locs) {q0 t0 : Nat} {cA : ClassId} {n : Nat} {f : Nat → Int32} (ha : ws[q0]? = some (a, .inl (cA, n, .inl f))) (ht : tys[t0]? = some (cA, .int)) {i x : Int32} (hin : vp_in i n) (hdg : decode cc pc = .ok (.iastore, 1))
    (kk : ∀ (H1 : Heap) (locs1 : List Loc), H1.size = H.size → va_P D cl (ws.set q0 (a, .inl (cA, n, .inl (upd f i.toNatClampNeg x)))) H1 → va_S A s.heap H1 locs1 → W p l e R s m args below meth c H1 locs1 cells slots Q (F0 m (pc + 1) lsA rest)) : W p l e R s m args below meth c H locs cells slots Q (F0 m pc lsA (.int x :: .int i :: .ref a :: rest)) := by
  refine W.iast hx hb (hP q0 _ ha) ((hK.2 t0 _ ht).1 n (fun j => .int (f j))) (fun q => by cases q) (by show ¬ (i < 0 ∨ (arrV _ _ _).slots.size ≤ _); rw [arrV_size]; exact hin) rfl rfl hdg fun H1 e1 z oq => ?_
  refine kk H1 _ z (hP.set hD ha ?_ oq) (hS.put z oq (hD.2 q0 _ ha))
  show H1[a]? = some (vp_cell _ _)
  rw [e1, vp_cell_i, vp_cell_i, arrV_store]
  congr 2
  funext q
  by_cases hq : q = i.toNatClampNeg
  · subst hq; simp [updV, upd]
  · simp [updV, upd, hq]
theorem m_row_last (hx : p.tables.exec = Jvm.exec) (hb : c.code = cc) (hK : va_K D cl tys s) (hP : va_P D cl ws H) (hD : va_D A ws) (hS : va_S A s.heap H locs) {q0 t0 : Nat} {cA : ClassId} {n : Nat} {f : Nat → Int64} (ha : ws[q0]? = some (a, .inl (cA, n, .inr (.inl f)))) (ht : tys[t0]? = some (cA, .long)) {i : Int32} {x : Int64} (hin : vp_in i n) (hdg : decode cc pc = .ok (.lastore, 1))
    (kk : ∀ (H1 : Heap) (locs1 : List Loc), H1.size = H.size → va_P D cl (ws.set q0 (a, .inl (cA, n, .inr (.inl (vp_updL f i.toNatClampNeg x))))) H1 → va_S A s.heap H1 locs1 → W p l e R s m args below meth c H1 locs1 cells slots Q (F0 m (pc + 1) lsA rest)) : W p l e R s m args below meth c H locs cells slots Q (F0 m pc lsA (.long x :: .int i :: .ref a :: rest)) := by
  refine W.last hx hb (hP q0 _ ha) ((hK.2 t0 _ ht).1 n (fun j => .long (f j))) (fun q => by cases q) (by show ¬ (i < 0 ∨ (arrV _ _ _).slots.size ≤ _); rw [arrV_size]; exact hin) rfl rfl hdg fun H1 e1 z oq => ?_
  refine kk H1 _ z (hP.set hD ha ?_ oq) (hS.put z oq (hD.2 q0 _ ha))
  show H1[a]? = some (vp_cell _ _)
  rw [e1, vp_cell_l, vp_cell_l, arrV_store]
  congr 2
  funext q
  by_cases hq : q = i.toNatClampNeg
  · subst hq; simp [updV, vp_updL]
  · simp [updV, vp_updL, hq]
theorem m_row_aast (hx : p.tables.exec = Jvm.exec) (hb : c.code = cc) (hK : va_K D cl tys s) (hP : va_P D cl ws H) (hD : va_D A ws) (hS : va_S A s.heap H locs) {q0 t0 qk ci : Nat} {cA : ClassId} {r : vw_C} {n v : Nat} {vs : List Value} {f : Nat → Option Nat} (ha : ws[q0]? = some (a, .inl (cA, n, .inr (.inr (.inr (.inr f)))))) (ht : tys[t0]? = some (cA, .object r.1)) (hv : ws[qk]? = some (v, .inr (ci, vs))) (hc : cl[ci]? = some r) {i : Int32} (hin : vp_in i n) (hdg : decode cc pc = .ok (.aastore, 1))
    (kk : ∀ (H1 : Heap) (locs1 : List Loc), H1.size = H.size → va_P D cl (ws.set q0 (a, .inl (cA, n, .inr (.inr (.inr (.inr (va_up f i.toNatClampNeg (some v)))))))) H1 → va_S A s.heap H1 locs1 → W p l e R s m args below meth c H1 locs1 cells slots Q (F0 m (pc + 1) lsA rest)) : W p l e R s m args below meth c H locs cells slots Q (F0 m pc lsA (.ref v :: .int i :: .ref a :: rest)) := by
  have hlt : i.toNatClampNeg < n := Nat.not_le.mp fun q => hin (Or.inr q)
  have h0 : ¬ i < 0 := fun q => hin (Or.inl q)
  obtain ⟨r', hr', cellV, g1, g2, g3, -⟩ := hP qk _ hv
  have hcls := (hK.1 ci r hc).2
  obtain ⟨kA, comp, k1, k2, k3, -⟩ := (hK.2 t0 _ ht).2
  have hcomp : comp = D.1 ci := Option.some.inj (k3.symm.trans hcls.1)
  subst hcomp
  obtain ⟨kC, hkC, -⟩ := hcls.2
  refine W.aast hx hb (hP q0 _ ha) (fun q h => by cases h) (fun h => by cases h) k1 k2 rfl hkC ⟨h0, by show _ < (arrV _ _ _).slots.size; rw [arrV_size]; exact hlt⟩ g1 (fun q h => by rw [g3] at h; cases h) (by rw [g2]; exact hkC) (by rw [g2]; exact va_assign hcls) rfl rfl hdg fun H1 e1 z oq => ?_
  refine kk H1 _ z (hP.set hD ha ?_ oq) (hS.put z oq (hD.2 q0 _ ha))
  show H1[a]? = some (vp_cell _ _)
  rw [e1, vp_cell_q, vp_cell_q, arrV_store]
  congr 2
  funext q
  by_cases hq : q = i.toNatClampNeg
  · subst hq; simp [updV, va_up, va_rf]
  · simp [updV, va_up, hq]
theorem m_row_new (hx : p.tables.exec = Jvm.exec) (hb : c.code = cc) {own C : String} {T : u_T} {n ci index : Nat} (hts : ∀ w ∈ u_ws C T n, w.before args s = true) (tyk : Nat → FieldType) (hty : ∀ k, k < n → parseFieldDescriptor (T k).2.2.1 = some (tyk k)) (hown : s.vm.findClass own = some m.cls) (hcl : (Cond.classLink own index C).before args s = true) (hinst : (Cond.instantiable C n).before args s = true) (hini : (Cond.initialized C).before args s = true)
    (hK : va_K D cl tys s) (hP : va_P D cl ws H) (hS : va_S A s.heap H locs) (hc : cl[ci]? = some (C, T, n)) {fs : List Value} (hfs : ∀ j, j < n → defaultValue (tyk j) = vp_V fs j) (hcells : cells + 1 ≤ R.cells) (hslots : slots + n ≤ R.slots) (hdg : decode cc pc = .ok (.new index, 3)) {h : Nat} (hh : H.size = h)
    (kk : ∀ (H1 : Heap), H1.size = h + 1 → va_P D cl (ws ++ [(h, .inr (ci, fs))]) H1 → va_S A s.heap H1 locs → W p l e R s m args below meth c H1 locs (cells + 1) (slots + n) Q (F0 m (pc + 3) lsA (.ref h :: rest))) : W p l e R s m args below meth c H locs cells slots Q (F0 m pc lsA rest) := by
  have hKn := hK.1 ci _ hc
  refine W.newcK hx hb hown hcl hinst hini rfl hdg hcells hslots hKn.2.1 hh fun H1 kC hkC e1 z1 o1 => ?_
  subst hh
  have hk : ∀ (k : Nat) (x : Nat × va_E), ws[k]? = some x → H1[x.1]? = H[x.1]? := fun k x hx => o1 x.1 ((hP k x hx).lt)
  refine kk H1 z1 ((hP.kept hk).app (fun k x hx => ?_)) ⟨Nat.le_trans hS.1 (by omega), fun x h1 h2 => (o1 x (Nat.lt_of_lt_of_le h1 hS.1)).trans (hS.2.1 x h1 h2), hS.2.2⟩
  have hz : k < 1 := (List.getElem?_eq_some_iff.mp hx).1
  rw [show k = 0 by omega] at hx
  cases hx
  exact ⟨_, hc, (u_born tyk hts (fun w h => h) hKn hkC e1 hty).to hfs⟩
/-- a new row of numbers -/
theorem m_row_newa (hx : p.tables.exec = Jvm.exec) (hb : c.code = cc) {atype : ArrayType} (harr : (Cond.arrayClass (newarray.typeOf atype)).before args s = true) {ty : FieldType} (hty : newarray.typeOf atype = ty) (hK : va_K D cl tys s) {t0 : Nat} {cA : ClassId} (ht : tys[t0]? = some (cA, ty)) (hprim : va_RA s cA ty → s.vm.findClass ("[" ++ ty.toString) = some cA) (hP : va_P D cl ws H) (hS : va_S A s.heap H locs)
    {n : Int32} {N' : Nat} {a0 : vp_A} (ha : ∀ cA : ClassId, vp_cell cA a0 = arrV cA N' (fun _ => defaultValue ty)) (hn : ¬ n < 0) (hN : n.toNatClampNeg = N') (hbytes : N' * componentBytes ty ≤ 536870912) (hcells : cells + 1 ≤ R.cells) (hslots : slots + N' ≤ R.slots) (hdg : decode cc pc = .ok (.newarray atype, 2)) {h : Nat} (hh : H.size = h)
    (kk : ∀ (H1 : Heap), H1.size = h + 1 → va_P D cl (ws ++ [(h, .inl (cA, a0))]) H1 → va_S A s.heap H1 locs →
      W p l e R s m args below meth c H1 locs (cells + 1) (slots + N') Q (F0 m (pc + 2) lsA (.ref h :: rest))) : W p l e R s m args below meth c H locs cells slots Q (F0 m pc lsA (.int n :: rest)) := by
  subst hty
  refine va_newaK hx hb harr rfl hdg rfl hn hN hbytes hcells hslots hh fun H1 cA' e1 z1 o1 hAr hNm => ?_
  have hcA : cA' = cA := Option.some.inj (hNm.symm.trans (hprim (hK.2 t0 _ ht).2))
  subst hcA
  subst hh
  have hk : ∀ (k : Nat) (x : Nat × va_E), ws[k]? = some x → H1[x.1]? = H[x.1]? := fun k x hx => o1 x.1 ((hP k x hx).lt)
  refine kk H1 z1 ((hP.kept hk).app (fun k x hx => ?_)) ⟨Nat.le_trans hS.1 (by omega), fun x h1 h2 => (o1 x (Nat.lt_of_lt_of_le h1 hS.1)).trans (hS.2.1 x h1 h2), hS.2.2⟩
  have hz : k < 1 := (List.getElem?_eq_some_iff.mp hx).1
  rw [show k = 0 by omega] at hx
  cases hx
  show H1[H.size]? = some (vp_cell _ _)
  rw [ha]
  exact e1
/-- a new row of references -/
theorem m_row_anew (hx : p.tables.exec = Jvm.exec) (hb : c.code = cc) {own C : String} {index : Nat} (hown : s.vm.findClass own = some m.cls) (hclink : (Cond.classLink own index C).before args s = true) (hover : va_AO C s) (hK : va_K D cl tys s) {t0 : Nat} {cA : ClassId} (ht : tys[t0]? = some (cA, .object C)) (hP : va_P D cl ws H) (hS : va_S A s.heap H locs)
    {n : Int32} {N' : Nat} (hn : ¬ n < 0) (hN : n.toNatClampNeg = N') (hbytes : N' * 4 ≤ 536870912) (hcells : cells + 1 ≤ R.cells) (hslots : slots + N' ≤ R.slots) (hdg : decode cc pc = .ok (.anewarray index, 3)) {h : Nat} (hh : H.size = h)
    (kk : ∀ (H1 : Heap), H1.size = h + 1 → va_P D cl (ws ++ [(h, .inl (cA, N', .inr (.inr (.inr (.inr (fun _ => none))))))]) H1 → va_S A s.heap H1 locs →
      W p l e R s m args below meth c H1 locs (cells + 1) (slots + N') Q (F0 m (pc + 3) lsA (.ref h :: rest))) : W p l e R s m args below meth c H locs cells slots Q (F0 m pc lsA (.int n :: rest)) := by
  subst hN
  subst hh
  refine W.anew hx hb hown hclink (va_AO.use hover) rfl hdg rfl hn hbytes hcells hslots fun cA' kA comp f1 f2 f3 f4 => ?_
  have hcA : cA' = cA := by
    obtain ⟨kA2, comp2, -, -, -, g4⟩ := (hK.2 t0 _ ht).2
    exact Option.some.inj (f1.symm.trans g4)
  subst hcA
  generalize hH1 : H.push ({ cls := cA', slots := Array.replicate n.toNatClampNeg .null, vm := .none } : Cell) = H1
  have z1 : H1.size = H.size + 1 := by rw [← hH1, Array.size_push]
  have e1 : H1[H.size]? = some (arrV cA' n.toNatClampNeg (fun _ => .null)) := by rw [← hH1, Array.getElem?_push_size, ← arrV_new]
  have o1 : ∀ q : Nat, q < H.size → H1[q]? = H[q]? := fun q hq => by rw [← hH1, Array.getElem?_push, if_neg (Nat.ne_of_lt hq)]
  have hk : ∀ (k : Nat) (x : Nat × va_E), ws[k]? = some x → H1[x.1]? = H[x.1]? := fun k x hx => o1 x.1 ((hP k x hx).lt)
  refine kk H1 z1 ((hP.kept hk).app (fun k x hx => ?_)) ⟨Nat.le_trans hS.1 (by omega), fun x h1 h2 => (o1 x (Nat.lt_of_lt_of_le h1 hS.1)).trans (hS.2.1 x h1 h2), hS.2.2⟩
  have hz : k < 1 := (List.getElem?_eq_some_iff.mp hx).1
  rw [show k = 0 by omega] at hx
  cases hx
  show H1[H.size]? = some (vp_cell _ _)
  rw [vp_cell_q]
  exact e1
end MR
end
section
theorem m_obj1 : Cond.instanceMethod Lib.objectInit ∈ m_TW := m_TW_in (i := 153) (by decide +kernel) (by decide +kernel)
theorem m_obj2 : Cond.code Lib.objectInit ⟨#[0xb1]⟩ 1 none ∈ m_TW := m_TW_in (i := 154) (by decide +kernel) (by decide +kernel)
theorem m_fv_df (ad : Nat → Nat) (k : Nat) (ty : FieldType) : m_fv ad (fun _ => 0) (fun _ => 0) k (defaultValue ty) = defaultValue ty := by cases ty <;> rfl
theorem m_ws_D {dA ad : Nat → Nat} {base : Nat} {h : mH} (hlen : h.1.length ≤ 1000000) (had : ∀ j, j < 1000000 → ad j = base + j) : va_D (m_A base) (m_ws dA ad h) := by
  have key : ∀ (i : Nat) (p : Nat × va_E), (m_ws dA ad h)[i]? = some p → p.1 = base + i ∧ i < h.1.length := by
    intro i p hp
    have hl : i < h.1.length := by have := (List.getElem?_eq_some_iff.mp hp).1; rwa [m_ws_len] at this
    have h1 := m_ws_get (dA := dA) (ad := ad) (List.getElem?_eq_getElem hl)
    rw [h1] at hp
    cases hp
    exact ⟨had i (by omega), hl⟩
  refine ⟨fun i j p q hp hq e => ?_, fun k q hk => ?_⟩
  · have h1 := key i p hp
    have h2 := key j q hq
    omega
  · have h1 := key k q hk
    show base ≤ q.1
    omega
theorem m_key1 (q : Nat) (h : 1000100 ≤ q ∧ q < 1000127) : ∃ j : Nat, q = 1000100 + j ∧ j < 27 := ⟨q - 1000100, by omega, by omega⟩
theorem m_key2 (q : Nat) (h : 1000200 ≤ q ∧ q < 1000227) : ∃ j : Nat, q = 1000200 + j ∧ j < 27 := ⟨q - 1000200, by omega, by omega⟩
theorem m_ok_newarr {own nm : String} {tab : List mM} {pc : Nat} {t : ArrayType} {aux : List Int} (h : m_okI own nm tab pc (.newarray t) aux = true) : ∃ pl, m_w pl (.arrayClass (newarray.typeOf t)) = true := by
  rcases aux with _ | ⟨a, _ | ⟨b, r⟩⟩
  · simp [m_okI] at h
  · exact ⟨a, h⟩
  · simp [m_okI] at h
theorem m_ok_anew {own nm : String} {tab : List mM} {pc : Nat} {i : Nat} {aux : List Int} (h : m_okI own nm tab pc (.anewarray i) aux = true) : ∃ pl, m_w pl (.classLink own i "IsHeIn$Moment") = true := by
  rcases aux with _ | ⟨a, _ | ⟨b, r⟩⟩
  · simp [m_okI] at h
  · exact ⟨a, h⟩
  · simp [m_okI] at h
section MS3
variable {p : Program} {l : Launch} {e : Env} {R : Room} {s : State} {m : MethodId} {args : Array Value} {below : List Frame} {meth : Method} {c : Code} {H : Heap} {locs : List Loc} {cells slots : Nat} {Q : State → Prop}
variable {cc : ByteArray} {pc pc' nL : Nat} {lsA : Array Slot} {ls ls' : List (Option Value)} {st st' : List Value} {h h' : mH} {ins : Instr} {aux : List Int} {own nm : String} {tab : List mM}
variable {ad : Nat → Nat} {base : Nat} {vF : Value} {dC : Nat → ClassId} {dI : Nat → Nat → Nat} {dA : Nat → Nat} {N : Nat} {xs : Nat → Int32}
set_option maxHeartbeats 8000000 in
theorem m_op3_ok (hop : m_op3 N xs ins aux pc ls st h = some (pc', ls', st', h')) (hd : decode cc pc = .ok (ins, m_len ins aux)) (hok : m_okI own nm tab pc ins aux = true) (hx : p.tables.exec = Jvm.exec) (hb : c.code = cc) (hlsz : lsA.size = c.maxLocals) (hown : s.vm.findClass own = some m.cls) (hts : ∀ w ∈ m_TW, w.before args s = true) (hF : m_Fx ad base vF dC dI dA N xs s s.heap) (hnm : nm = meth.name)
    (hP : va_P (dC, dI) m_cl (m_ws dA ad h) H) (hsz : H.size = base + h.1.length) (hlen : h.1.length ≤ 1000000) (hS : va_S (m_A base) s.heap H locs) (hcells : cells + (h'.1.length - h.1.length) ≤ R.cells) (hslots : slots + (m_sl h'.1 - m_sl h.1) ≤ R.slots) (hroom : 1 ≤ R.frames ∧ 20 ≤ R.locals)
    (kk : ∀ (H' : Heap) (locs' : List Loc) (cells' slots' : Nat), ls' = ls → va_P (dC, dI) m_cl (m_ws dA ad h') H' → H'.size = base + h'.1.length → h'.1.length ≤ 1000000 → va_S (m_A base) s.heap H' locs' → cells' + h.1.length = cells + h'.1.length → slots' + m_sl h.1 = slots + m_sl h'.1 → W p l e R s m args below meth c H' locs' cells' slots' Q (F0 m pc' lsA (st'.map (m_v ad vF)))) :
    W p l e R s m args below meth c H locs cells slots Q (F0 m pc lsA (st.map (m_v ad vF))) := by
  obtain ⟨hK, hNw, hAO, ⟨hX, hXb, hXB⟩, hT5, hZ0, hZ1, hZ2, hStr, hR, hbase, hvF, had⟩ := id hF
  have hD := m_ws_D (dA := dA) hlen had
  have hbA : ¬ (m_A base) (ad 1000000) := fun q => by have : base ≤ ad 1000000 := q; omega
  have same : h' = h → ls' = ls → W p l e R s m args below meth c H locs cells slots Q (F0 m pc' lsA (st'.map (m_v ad vF))) := by
    intro e1 e2
    subst e1
    exact kk H locs cells slots e2 hP hsz hlen hS rfl rfl
  have clts : ∀ {ci : Nat} {C : String} {T : u_T} {n : Nat}, m_cl[ci]? = some (C, T, n) → ∀ w ∈ u_ws C T n, w ∈ m_TW := fun hq w hw => List.mem_filter.mpr ((m_clok hq).1 w hw)
  unfold m_op3 at hop
  split at hop
  · -- getfield
    next idx i r =>
    split at hop
    · next ci k pl a1 a2 =>
      split at hop
      · next v hv =>
        simp only [Option.some.injEq, Prod.mk.injEq] at hop
        obtain ⟨rfl, rfl, rfl, rfl⟩ := hop
        simp only [m_okI] at hok
        split at hok
        · next C T n hcl =>
          simp only [Bool.and_eq_true, decide_eq_true_eq] at hok
          unfold m_gf at hv
          split at hv
          · next c' fs hs =>
            split at hv
            · next hcc =>
              subst hcc
              have go : ∀ z : Value, fs[k.toNat]? = some z → m_fv ad (h.2.1 i) (h.2.2 i) k.toNat z = m_v ad vF v → W p l e R s m args below meth c H locs cells slots Q (F0 m pc lsA ((Value.ref i :: r).map (m_v ad vF))) := by
                intro z hz hzz
                refine va_get (D := (dC, dI)) (v := m_v ad vF v) hx hb hts (clts hcl) hown hK hP i (m_ws_get hs) hcl k.toNat hok.1 (hts _ (m_w_in hok.2)) (fun _ q => q) ?_ hd (same rfl rfl)
                rw [m_fs_get, hz]
                simp only [Option.map_some, Nat.zero_add, hzz]
              split at hv
              · next z hz => cases hv; exact go _ hz rfl
              · next z hz => cases hv; exact go _ hz rfl
              · next z hz => cases hv; exact go _ hz rfl
              · next hz => cases hv; exact go _ hz rfl
              · cases hv
            · cases hv
          · cases hv
        · cases hok
      · cases hop
    · next k pl =>
      split at hop
      · next hi =>
        obtain ⟨j, rfl, hj⟩ := m_key1 i hi
        obtain ⟨g1, g2, g3, g4⟩ := hStr j hj
        split at hop
        · next hk0 =>
          simp only [Option.some.injEq, Prod.mk.injEq] at hop
          obtain ⟨rfl, rfl, rfl, rfl⟩ := hop
          subst hk0
          simp only [m_okI, if_true] at hok
          refine vk_getf hx hb g3 hS hown (hts _ (m_w_in hok)) (fun _ q => q) hd ?_
          have h9 := same rfl rfl
          have e9 : ad (1000200 + j) = ad (1000100 + j + 100) := congrArg ad (show (1000200 + j : Nat) = 1000100 + j + 100 by omega)
          rw [e9]
          exact h9
        · next hk0 =>
          simp only [Option.some.injEq, Prod.mk.injEq] at hop
          obtain ⟨rfl, rfl, rfl, rfl⟩ := hop
          simp only [m_okI, if_neg hk0] at hok
          exact vk_getf hx hb g2 hS hown (hts _ (m_w_in hok)) (fun _ q => q) hd (same rfl rfl)
      · cases hop
    · cases hop
  · -- putfield
    next idx v i r =>
    split at hop
    · next ci k pl kd fin =>
      split at hop
      · next h2 hv =>
        simp only [Option.some.injEq, Prod.mk.injEq] at hop
        obtain ⟨rfl, rfl, rfl, rfl⟩ := hop
        simp only [m_okI] at hok
        split at hok
        · next C T n hcl =>
          simp only [Bool.and_eq_true, decide_eq_true_eq] at hok
          obtain ⟨⟨⟨hk, hw⟩, hfin⟩, hkd⟩ := hok
          have hfin' : (T k.toNat).2.2.2 = false ∨ ((T k.toNat).2.2.2 = true ∧ meth.name = "<init>" ∧ (T k.toNat).1 = own) := by
            split at hfin
            · simp only [Bool.and_eq_true, decide_eq_true_eq] at hfin
              exact Or.inr ⟨hfin.1.1, hnm ▸ hfin.1.2, hfin.2⟩
            · exact Or.inl (of_decide_eq_true hfin)
          obtain ⟨-, hty, hnms⟩ := m_clok hcl
          have hlayT : ∀ w ∈ u_ws C T n, w.before args s = true := fun w hw => hts w (clts hcl w hw)
          unfold m_pf at hv
          split at hv
          · next c' fs hs =>
            split at hv
            · next hcc =>
              subst hcc
              have hil : i < h.1.length := (List.getElem?_eq_some_iff.mp hs).1
              split at hv
              · -- an int
                next z x hz =>
                have hkl := (List.getElem?_eq_some_iff.mp hz).1
                have go : ∀ {h3 : mH}, h3 = (h.1, mu h.2.1 i k.toNat x, h.2.2) → h3 = h2 → narrow (m_ty ci.toNat k.toNat) (.int x) = .int x → fits (m_ty ci.toNat k.toNat) (.int x) = true → W p l e R s m args below meth c H locs cells slots Q (F0 m pc lsA ((Value.int x :: Value.ref i :: r).map (m_v ad vF))) := by
                  intro h3 e3 e4 hn hf
                  subst e4
                  refine m_row_put (D := (dC, dI)) hx hb hlayT (m_ty ci.toNat) hty hnms hown hK hP hD hS (m_ws_get hs) hcl hk (hts _ (m_w_in hw)) hfin' (v := .int x) hn hf (by rw [m_fs_len]; exact hkl) hd fun H1 locs1 z1 hP1 hS1 => ?_
                  have hset : (m_ws dA ad h).set i (ad i, .inr (ci.toNat, (m_fs ad (h.2.1 i) (h.2.2 i) 0 fs).set k.toNat (.int x))) = m_ws dA ad h3 := by
                    rw [e3]
                    refine m_ws_set (fun j hj => ?_) ?_ hil
                    · cases h.1[j]? with
                      | none => rfl
                      | some w => exact congrArg some (m_cell_eq w (m_mu_ne _ _ _ hj) rfl)
                    · show (h.1[i]?).map _ = _
                      rw [hs]
                      simp only [Option.map_some, m_cell, m_mu_self]
                      rw [m_fs_seti hz (di' := upd (h.2.1 i) k.toNat x) (fun j => rfl)]
                  rw [hset] at hP1
                  exact kk H1 locs1 cells slots rfl hP1 (by rw [z1, hsz, e3]) (by rw [e3]; exact hlen) hS1 (by rw [e3]) (by rw [e3])
                split at hv
                · next hkd0 =>
                  subst hkd0
                  cases hv
                  simp only [if_true] at hkd
                  have hty0 := of_decide_eq_true hkd
                  exact go rfl rfl (by rw [hty0]; rfl) (by rw [hty0]; rfl)
                · split at hv
                  · next hkd0 hkd3 =>
                    subst hkd3
                    split at hv
                    · next hx01 =>
                      cases hv
                      have hty0 : m_ty ci.toNat k.toNat = .boolean := by
                        have h9 := hkd
                        simp only [show ¬ (3 : Int) = 0 by decide, show ¬ (3 : Int) = 1 by decide, if_false, if_true] at h9
                        exact of_decide_eq_true h9
                      refine go rfl rfl ?_ ?_
                      · rw [hty0]
                        rcases hx01 with rfl | rfl <;> decide
                      · rw [hty0]
                        rcases hx01 with rfl | rfl <;> decide
                    · cases hv
                  · cases hv
              · -- a long
                next z x hz =>
                have hkl := (List.getElem?_eq_some_iff.mp hz).1
                split at hv
                · next hkd1 =>
                  subst hkd1
                  cases hv
                  have hty0 : m_ty ci.toNat k.toNat = .long := by
                    have h9 := hkd
                    simp only [show ¬ (1 : Int) = 0 by decide, if_false, if_true] at h9
                    exact of_decide_eq_true h9
                  refine m_row_put (D := (dC, dI)) hx hb hlayT (m_ty ci.toNat) hty hnms hown hK hP hD hS (m_ws_get hs) hcl hk (hts _ (m_w_in hw)) hfin' (v := .long x) (by rw [hty0]; rfl) (by rw [hty0]; rfl) (by rw [m_fs_len]; exact hkl) hd fun H1 locs1 z1 hP1 hS1 => ?_
                  have hset : (m_ws dA ad h).set i (ad i, .inr (ci.toNat, (m_fs ad (h.2.1 i) (h.2.2 i) 0 fs).set k.toNat (.long x))) = m_ws dA ad (h.1, h.2.1, muL h.2.2 i k.toNat x) := by
                    refine m_ws_set (fun j hj => ?_) ?_ hil
                    · cases h.1[j]? with
                      | none => rfl
                      | some w => exact congrArg some (m_cell_eq w rfl (m_muL_ne _ _ _ hj))
                    · show (h.1[i]?).map _ = _
                      rw [hs]
                      simp only [Option.map_some, m_cell, m_muL_self]
                      rw [m_fs_setl hz (li' := vp_updL (h.2.2 i) k.toNat x) (fun j => rfl)]
                  rw [hset] at hP1
                  exact kk H1 locs1 cells slots rfl hP1 (by rw [z1, hsz]) hlen hS1 rfl rfl
                · cases hv
              · -- a reference
                next j hz =>
                have hkl := (List.getElem?_eq_some_iff.mp hz).1
                split at hv
                · next hkd2 =>
                  subst hkd2
                  cases hv
                  have hty0 : m_isRefTy (m_ty ci.toNat k.toNat) = true := by
                    have h9 := hkd
                    simp only [show ¬ (2 : Int) = 0 by decide, show ¬ (2 : Int) = 1 by decide, show ¬ (2 : Int) = 3 by decide, if_false] at h9
                    exact h9
                  have hnf : narrow (m_ty ci.toNat k.toNat) (.ref (ad j)) = .ref (ad j) ∧ fits (m_ty ci.toNat k.toNat) (.ref (ad j)) = true := by
                    cases hz2 : m_ty ci.toNat k.toNat <;> rw [hz2] at hty0 <;> first | exact ⟨rfl, rfl⟩ | cases hty0
                  refine m_row_put (D := (dC, dI)) hx hb hlayT (m_ty ci.toNat) hty hnms hown hK hP hD hS (m_ws_get hs) hcl hk (hts _ (m_w_in hw)) hfin' (v := .ref (ad j)) hnf.1 hnf.2 (by rw [m_fs_len]; exact hkl) hd fun H1 locs1 z1 hP1 hS1 => ?_
                  have hset : (m_ws dA ad h).set i (ad i, .inr (ci.toNat, (m_fs ad (h.2.1 i) (h.2.2 i) 0 fs).set k.toNat (.ref (ad j)))) = m_ws dA ad (h.1.set i (.inr (ci.toNat, fs.set k.toNat (.ref j))), h.2.1, h.2.2) := by
                    refine m_ws_set (fun q hq => ?_) ?_ hil
                    · show (h.1[q]?).map _ = ((h.1.set i _)[q]?).map _
                      rw [List.getElem?_set_ne (Ne.symm hq)]
                    · show ((h.1.set i _)[i]?).map _ = _
                      rw [List.getElem?_set_self hil]
                      simp only [Option.map_some, m_cell]
                      rw [m_fs_setr hz]
                  rw [hset] at hP1
                  refine kk H1 locs1 cells slots rfl hP1 (by rw [z1, hsz, List.length_set]) (by rw [List.length_set]; exact hlen) hS1 (by rw [List.length_set]) ?_
                  rw [m_sl_set hs (by simp [m_sl1])]
                · cases hv
              · cases hv
            · cases hv
          · cases hv
        · cases hok
      · cases hop
    · cases hop
  · -- getstatic
    next idx st =>
    split at hop
    · next pl =>
      simp only [Option.some.injEq, Prod.mk.injEq] at hop
      obtain ⟨rfl, rfl, rfl, rfl⟩ := hop
      exact va_getsN hx hb hZ0 hS hown (va_Nw.use rfl (hNw _ (m_nw_in hok))) (fun _ q => q) hd (same rfl rfl)
    · next pl =>
      simp only [Option.some.injEq, Prod.mk.injEq] at hop
      obtain ⟨rfl, rfl, rfl, rfl⟩ := hop
      exact va_gets hx hb hZ1 hS hown (hts _ (m_w_in hok)) (fun _ q => q) hd (same rfl rfl)
    · next pl =>
      simp only [Option.some.injEq, Prod.mk.injEq] at hop
      obtain ⟨rfl, rfl, rfl, rfl⟩ := hop
      exact va_gets hx hb hZ2 hS hown (hts _ (m_w_in hok)) (fun _ q => q) hd (same rfl rfl)
    · cases hop
  · -- arraylength
    next j r =>
    split at hop
    · next n hn =>
      simp only [Option.some.injEq, Prod.mk.injEq] at hop
      obtain ⟨rfl, rfl, rfl, rfl⟩ := hop
      unfold m_al at hn
      split at hn
      · next k n' q hs =>
        split at hn
        · next hk3 =>
          cases hn
          have ht : ∃ ty, (m_tys dA)[k]? = some (dA k, ty) := by
            match k, hk3 with
            | 0, _ => exact ⟨_, rfl⟩
            | 1, _ => exact ⟨_, rfl⟩
            | 2, _ => exact ⟨_, rfl⟩
          obtain ⟨ty, ht⟩ := ht
          exact va_alen hx hb hK hP j k (m_ws_get hs) ht rfl hd (same rfl rfl)
        · cases hn
      · cases hn
      · split at hn
        · next hj =>
          have hn := Option.some.inj hn
          subst hn
          subst hj
          exact va_slen hx hb hX hXb hbA hS hd (same rfl rfl)
        · split at hn
          · next hj =>
            have hn := Option.some.inj hn
            subst hn
            subst hj
            exact va_tlen hx hb hT5 hS rfl hd (same rfl rfl)
          · split at hn
            · next hj =>
              have hn := Option.some.inj hn
              subst hn
              obtain ⟨k, rfl, hk27⟩ := m_key2 j hj
              obtain ⟨g1, g2, g3, g4⟩ := hStr k hk27
              have e9 : (1000200 + k : Nat) - 1000200 = k := by omega
              have h9 := same rfl rfl
              rw [e9] at h9
              exact va_tlen hx hb g4 hS rfl hd h9
            · cases hn
    · cases hop
  · -- iaload
    next i j r =>
    split at hop
    · next x hxx =>
      simp only [Option.some.injEq, Prod.mk.injEq] at hop
      obtain ⟨rfl, rfl, rfl, rfl⟩ := hop
      unfold m_ia at hxx
      split at hxx
      · next n q hs =>
        split at hxx
        · cases hxx
        · next hin =>
          cases hxx
          exact va_iald hx hb hK hP j 0 (m_ws_get hs) rfl hin hd (same rfl rfl)
      · cases hxx
      · split at hxx
        · next hj =>
          subst hj
          split at hxx
          · cases hxx
          · next hin =>
            cases hxx
            exact va_sld hx hb hX hXb hbA hS hin hd (same rfl rfl)
        · split at hxx
          · next hj =>
            subst hj
            split at hxx
            · cases hxx
            · next hin =>
              cases hxx
              exact va_ti hx hb hT5 hS hin rfl hd (same rfl rfl)
          · cases hxx
    · cases hop
  · -- laload
    next i j r =>
    split at hop
    · next n q hs =>
      split at hop
      · cases hop
      · next hin =>
        simp only [Option.some.injEq, Prod.mk.injEq] at hop
        obtain ⟨rfl, rfl, rfl, rfl⟩ := hop
        exact va_lald hx hb hK hP j 1 (m_ws_get hs) rfl hin hd (same rfl rfl)
    · cases hop
  · -- aaload
    next i j r =>
    split at hop
    · next n q hs =>
      split at hop
      · cases hop
      · next hin =>
        simp only [Option.some.injEq, Prod.mk.injEq] at hop
        obtain ⟨rfl, rfl, rfl, rfl⟩ := hop
        refine va_aldq hx hb hK hP j 2 (m_ws_get hs) rfl hin hd ?_
        have h9 := same rfl rfl
        simp only [List.map_cons] at h9
        cases hz : q.getD i.toNatClampNeg none with
        | none => rw [hz] at h9; simpa [va_rf, m_v] using h9
        | some a => rw [hz] at h9; simpa [va_rf, m_v] using h9
    · cases hop
  · -- baload
    next i j r =>
    split at hop
    · next hj =>
      obtain ⟨k, rfl, hk27⟩ := m_key2 j hj
      obtain ⟨g1, g2, g3, g4⟩ := hStr k hk27
      have e9 : (1000200 + k : Nat) - 1000200 = k := by omega
      rw [e9] at hop
      split at hop
      · cases hop
      · next hin =>
        simp only [Option.some.injEq, Prod.mk.injEq] at hop
        obtain ⟨rfl, rfl, rfl, rfl⟩ := hop
        exact va_tb hx hb g4 hS hin rfl hd (same rfl rfl)
    · cases hop
  · -- iastore
    next x i j r =>
    split at hop
    · next n q hs =>
      split at hop
      · cases hop
      · next hin =>
        simp only [Option.some.injEq, Prod.mk.injEq] at hop
        obtain ⟨rfl, rfl, rfl, rfl⟩ := hop
        have hil : j < h.1.length := (List.getElem?_eq_some_iff.mp hs).1
        refine m_row_iast (t0 := 0) hx hb hK hP hD hS (m_ws_get hs) rfl hin hd fun H1 locs1 z1 hP1 hS1 => ?_
        have hset : (m_ws dA ad h).set j (ad j, .inl (dA 0, n, .inl (upd (h.2.1 j) i.toNatClampNeg x))) = m_ws dA ad (h.1, mu h.2.1 j i.toNatClampNeg x, h.2.2) := by
          refine m_ws_set (fun q hq => ?_) ?_ hil
          · cases h.1[q]? with
            | none => rfl
            | some w => exact congrArg some (m_cell_eq w (m_mu_ne _ _ _ hq) rfl)
          · show (h.1[j]?).map _ = _
            rw [hs]
            simp only [Option.map_some, m_cell, m_mu_self]
        rw [hset] at hP1
        exact kk H1 locs1 cells slots rfl hP1 (by rw [z1, hsz]) hlen hS1 rfl rfl
    · cases hop
  · -- lastore
    next x i j r =>
    split at hop
    · next n q hs =>
      split at hop
      · cases hop
      · next hin =>
        simp only [Option.some.injEq, Prod.mk.injEq] at hop
        obtain ⟨rfl, rfl, rfl, rfl⟩ := hop
        have hil : j < h.1.length := (List.getElem?_eq_some_iff.mp hs).1
        refine m_row_last (t0 := 1) hx hb hK hP hD hS (m_ws_get hs) rfl hin hd fun H1 locs1 z1 hP1 hS1 => ?_
        have hset : (m_ws dA ad h).set j (ad j, .inl (dA 1, n, .inr (.inl (vp_updL (h.2.2 j) i.toNatClampNeg x)))) = m_ws dA ad (h.1, h.2.1, muL h.2.2 j i.toNatClampNeg x) := by
          refine m_ws_set (fun q hq => ?_) ?_ hil
          · cases h.1[q]? with
            | none => rfl
            | some w => exact congrArg some (m_cell_eq w rfl (m_muL_ne _ _ _ hq))
          · show (h.1[j]?).map _ = _
            rw [hs]
            simp only [Option.map_some, m_cell, m_muL_self]
        rw [hset] at hP1
        exact kk H1 locs1 cells slots rfl hP1 (by rw [z1, hsz]) hlen hS1 rfl rfl
    · cases hop
  · -- aastore
    next a i j r =>
    split at hop
    · next n q vs hs hs2 =>
      split at hop
      · cases hop
      · next hin =>
        split at hop
        · next hql =>
          simp only [Option.some.injEq, Prod.mk.injEq] at hop
          obtain ⟨rfl, rfl, rfl, rfl⟩ := hop
          have hil : j < h.1.length := (List.getElem?_eq_some_iff.mp hs).1
          refine m_row_aast (t0 := 2) (ci := 4) (r := (RX4, TX4, 4)) hx hb hK hP hD hS (m_ws_get hs) rfl (m_ws_get hs2) rfl hin hd fun H1 locs1 z1 hP1 hS1 => ?_
          have hset : (m_ws dA ad h).set j (ad j, .inl (dA 2, n, .inr (.inr (.inr (.inr (va_up (fun j => (q.getD j none).map ad) i.toNatClampNeg (some (ad a)))))))) = m_ws dA ad (h.1.set j (.inl (2, n, q.set i.toNatClampNeg (some a))), h.2.1, h.2.2) := by
            refine m_ws_set (fun z hz => ?_) ?_ hil
            · show (h.1[z]?).map _ = ((h.1.set j _)[z]?).map _
              rw [List.getElem?_set_ne (Ne.symm hz)]
            · show ((h.1.set j _)[j]?).map _ = _
              rw [List.getElem?_set_self hil]
              simp only [Option.map_some, m_cell, Option.some.injEq, Sum.inl.injEq, Prod.mk.injEq, true_and, Sum.inr.injEq]
              funext z
              by_cases hz : z = i.toNatClampNeg
              · subst hz
                simp [va_up, List.getD_eq_getElem?_getD, List.getElem?_set_self hql]
              · simp [va_up, hz, List.getD_eq_getElem?_getD, List.getElem?_set_ne (Ne.symm hz)]
          rw [hset] at hP1
          refine kk H1 locs1 cells slots rfl hP1 (by rw [z1, hsz, List.length_set]) (by rw [List.length_set]; exact hlen) hS1 (by rw [List.length_set]) ?_
          rw [m_sl_set hs (by simp [m_sl1])]
        · cases hop
    · cases hop
  · -- new
    next idx st =>
    split at hop
    · next ci p1 p2 p3 =>
      split at hop
      · next hlt =>
        simp only [Option.some.injEq, Prod.mk.injEq] at hop
        obtain ⟨rfl, rfl, rfl, rfl⟩ := hop
        simp only [m_okI] at hok
        split at hok
        · next C T n hcl =>
          simp only [Bool.and_eq_true] at hok
          obtain ⟨⟨w1, w2⟩, w3⟩ := hok
          obtain ⟨-, hty, hnms⟩ := m_clok hcl
          have hc13 : ci.toNat < 13 := (List.getElem?_eq_some_iff.mp hcl).1
          have hdf := m_dfok ci.toNat hc13
          rw [hcl] at hdf
          obtain ⟨hdl, hdv⟩ := hdf
          have hsl1 : m_sl (h.1 ++ [.inr (ci.toNat, m_df ci.toNat)]) = m_sl h.1 + n := by rw [m_sl_app]; simp [m_sl, m_sl1, hdl]
          simp only [List.length_append, List.length_singleton, hsl1] at hcells hslots
          refine m_row_new (D := (dC, dI)) hx hb (fun w hw => hts w (clts hcl w hw)) (m_ty ci.toNat) hty hown (hts _ (m_w_in w1)) (hts _ (m_w_in w2)) (hts _ (m_w_in w3)) hK hP hS hcl (fs := m_fs ad (fun _ => 0) (fun _ => 0) 0 (m_df ci.toNat)) ?_ (by omega) (by omega) hd hsz fun H1 z1 hP1 hS1 => ?_
          · intro j hj
            simp only [vp_V, List.getD_eq_getElem?_getD, m_fs_get, hdv j hj, Option.map_some, Option.getD_some, m_fv_df]
          · have hpush := m_ws_push (dA := dA) (ad := ad) (h := h) (s := .inr (ci.toNat, m_df ci.toNat)) (D := mz h.2.1 h.1.length) (L := mzL h.2.2 h.1.length) (fun i hi => by simp [mz, show ¬ i = h.1.length by omega]) (fun i hi => by simp [mzL, show ¬ i = h.1.length by omega])
            have hz0 : mz h.2.1 h.1.length h.1.length = fun _ => 0 := by simp [mz]
            have hz1 : mzL h.2.2 h.1.length h.1.length = fun _ => 0 := by simp [mzL]
            simp only [m_cell, hz0, hz1, had _ hlt] at hpush
            rw [hpush] at hP1
            have h9 := kk H1 locs (cells + 1) (slots + n) rfl hP1 (by simp only [List.length_append, List.length_singleton]; omega) (by simp only [List.length_append, List.length_singleton]; omega) hS1 (by simp only [List.length_append, List.length_singleton]; omega) (by rw [hsl1]; omega)
            simpa [m_v, had _ hlt] using h9
        · cases hok
      · cases hop
    · cases hop
  · -- newarray
    next t n r =>
    split at hop
    · cases hop
    · next hn =>
      split at hop
      · next hlt =>
        split at hop
        · -- ints
          simp only [Option.some.injEq, Prod.mk.injEq] at hop
          obtain ⟨rfl, rfl, rfl, rfl⟩ := hop
          obtain ⟨pl, hw⟩ := m_ok_newarr hok
          have hsl1 : m_sl (h.1 ++ [.inl (0, n.toNatClampNeg, [])]) = m_sl h.1 + n.toNatClampNeg := by rw [m_sl_app]; simp [m_sl, m_sl1]
          simp only [List.length_append, List.length_singleton, hsl1] at hcells hslots
          have hn0 : ¬ n < 0 := fun q => hn (Or.inl q)
          have hn1 : n.toNatClampNeg < 1000000 := Nat.not_le.mp fun q => hn (Or.inr q)
          refine m_row_newa (t0 := 0) (cA := dA 0) (ty := .int) (a0 := (n.toNatClampNeg, .inl (fun _ => 0))) (N' := n.toNatClampNeg) hx hb (hts _ (m_w_in hw)) rfl hK rfl (fun q => q) hP hS (fun _ => rfl) hn0 rfl (by show n.toNatClampNeg * 4 ≤ _; omega) (by omega) (by omega) hd hsz fun H1 z1 hP1 hS1 => ?_
          have hpush := m_ws_push (dA := dA) (ad := ad) (h := h) (s := .inl (0, n.toNatClampNeg, [])) (D := mz h.2.1 h.1.length) (L := mzL h.2.2 h.1.length) (fun i hi => by simp [mz, show ¬ i = h.1.length by omega]) (fun i hi => by simp [mzL, show ¬ i = h.1.length by omega])
          have hz0 : mz h.2.1 h.1.length h.1.length = fun _ => 0 := by simp [mz]
          simp only [m_cell, hz0, had _ hlt] at hpush
          rw [hpush] at hP1
          have h9 := kk H1 locs (cells + 1) (slots + n.toNatClampNeg) rfl hP1 (by simp only [List.length_append, List.length_singleton]; omega) (by simp only [List.length_append, List.length_singleton]; omega) hS1 (by simp only [List.length_append, List.length_singleton]; omega) (by rw [hsl1]; omega)
          simpa [m_v, had _ hlt] using h9
        · -- longs
          simp only [Option.some.injEq, Prod.mk.injEq] at hop
          obtain ⟨rfl, rfl, rfl, rfl⟩ := hop
          obtain ⟨pl, hw⟩ := m_ok_newarr hok
          have hsl1 : m_sl (h.1 ++ [.inl (1, n.toNatClampNeg, [])]) = m_sl h.1 + n.toNatClampNeg := by rw [m_sl_app]; simp [m_sl, m_sl1]
          simp only [List.length_append, List.length_singleton, hsl1] at hcells hslots
          have hn0 : ¬ n < 0 := fun q => hn (Or.inl q)
          have hn1 : n.toNatClampNeg < 1000000 := Nat.not_le.mp fun q => hn (Or.inr q)
          refine m_row_newa (t0 := 1) (cA := dA 1) (ty := .long) (a0 := (n.toNatClampNeg, .inr (.inl (fun _ => 0)))) (N' := n.toNatClampNeg) hx hb (hts _ (m_w_in hw)) rfl hK rfl (fun q => q) hP hS (fun _ => rfl) hn0 rfl (by show n.toNatClampNeg * 8 ≤ _; omega) (by omega) (by omega) hd hsz fun H1 z1 hP1 hS1 => ?_
          have hpush := m_ws_push (dA := dA) (ad := ad) (h := h) (s := .inl (1, n.toNatClampNeg, [])) (D := mz h.2.1 h.1.length) (L := mzL h.2.2 h.1.length) (fun i hi => by simp [mz, show ¬ i = h.1.length by omega]) (fun i hi => by simp [mzL, show ¬ i = h.1.length by omega])
          have hz0 : mzL h.2.2 h.1.length h.1.length = fun _ => 0 := by simp [mzL]
          simp only [m_cell, hz0, had _ hlt] at hpush
          rw [hpush] at hP1
          have h9 := kk H1 locs (cells + 1) (slots + n.toNatClampNeg) rfl hP1 (by simp only [List.length_append, List.length_singleton]; omega) (by simp only [List.length_append, List.length_singleton]; omega) hS1 (by simp only [List.length_append, List.length_singleton]; omega) (by rw [hsl1]; omega)
          simpa [m_v, had _ hlt] using h9
        · cases hop
      · cases hop
  · -- anewarray
    next idx n r =>
    split at hop
    · cases hop
    · next hn =>
      split at hop
      · next hlt =>
        simp only [Option.some.injEq, Prod.mk.injEq] at hop
        obtain ⟨rfl, rfl, rfl, rfl⟩ := hop
        obtain ⟨pl, hw⟩ := m_ok_anew hok
        have hsl1 : m_sl (h.1 ++ [.inl (2, n.toNatClampNeg, List.replicate n.toNatClampNeg none)]) = m_sl h.1 + n.toNatClampNeg := by rw [m_sl_app]; simp [m_sl, m_sl1]
        simp only [List.length_append, List.length_singleton, hsl1] at hcells hslots
        have hn0 : ¬ n < 0 := fun q => hn (Or.inl q)
        have hn1 : n.toNatClampNeg < 1000000 := Nat.not_le.mp fun q => hn (Or.inr q)
        refine m_row_anew (t0 := 2) (cA := dA 2) hx hb hown (hts _ (m_w_in hw)) hAO hK rfl hP hS hn0 rfl (by omega) (by omega) (by omega) hd hsz fun H1 z1 hP1 hS1 => ?_
        have hpush := m_ws_push (dA := dA) (ad := ad) (h := h) (s := .inl (2, n.toNatClampNeg, List.replicate n.toNatClampNeg none)) (D := mz h.2.1 h.1.length) (L := mzL h.2.2 h.1.length) (fun i hi => by simp [mz, show ¬ i = h.1.length by omega]) (fun i hi => by simp [mzL, show ¬ i = h.1.length by omega])
        have hz0 : (fun j => ((List.replicate n.toNatClampNeg (none : Option Nat)).getD j none).map ad) = fun _ => none := by
          funext j
          simp only [List.getD_eq_getElem?_getD, List.getElem?_replicate]
          split <;> rfl
        simp only [m_cell, hz0, had _ hlt] at hpush
        rw [hpush] at hP1
        have h9 := kk H1 locs (cells + 1) (slots + n.toNatClampNeg) rfl hP1 (by simp only [List.length_append, List.length_singleton]; omega) (by simp only [List.length_append, List.length_singleton]; omega) hS1 (by simp only [List.length_append, List.length_singleton]; omega) (by rw [hsl1]; omega)
        simpa [m_v, had _ hlt] using h9
      · cases hop
  · -- Object.<init>
    next idx j r =>
    split at hop
    · next pl a1 =>
      split at hop
      · next hcat =>
        simp only [Option.some.injEq, Prod.mk.injEq] at hop
        obtain ⟨rfl, rfl, rfl, rfl⟩ := hop
        have hcat' : ((r.map (m_v ad vF)).map fun v => v.category).sum ≤ 8 := by
          rw [List.map_map]
          rw [show ((fun v : Value => v.category) ∘ m_v ad vF) = (fun v => v.category) from funext fun w => m_v_cat hvF w]
          exact hcat
        have hok' : m_w pl (.methodLink own idx Lib.objectInit) = true := by simpa [m_okI] using hok
        refine W.objInit hx hb hown (hts _ (m_w_in hok')) (hts _ m_obj1) (hts _ m_obj2) rfl hlsz rfl hd hroom.1 ?_ (same rfl rfl)
        show 2 * 0 + _ + 12 ≤ _
        omega
      · cases hop
    · cases hop
  · cases hop
end MS3
end
section
/-! the fixed things go along; calls; what a run of the small machine says of a real method -/
theorem m_nest_on : ∀ w ∈ m_nest, w.onTables = true := by decide +kernel
theorem m_nest_warm {s U : State} (hW : s.WarmedH U.vm) : ∀ w ∈ m_nest, va_Nw w s → va_Nw w U := by
  intro w hw h
  simp only [m_nest, List.mem_cons, List.not_mem_nil, or_false] at hw
  rcases hw with rfl | rfl | rfl | rfl | rfl | rfl | rfl | rfl | rfl | rfl | rfl | rfl | rfl | rfl | rfl <;> first | exact va_Nw.warmM hW h | exact va_Nw.warmF hW h
section FX
variable {ad : Nat → Nat} {base : Nat} {vF : Value} {dC : Nat → ClassId} {dI : Nat → Nat → Nat} {dA : Nat → Nat} {N : Nat} {xs : Nat → Int32}
theorem m_Fx_to {u U : State} {H H1 : Heap} (h : m_Fx ad base vF dC dI dA N xs u H) (hvm : u.vm.Alike U.vm) (hN : ∀ w ∈ m_nest, va_Nw w u → va_Nw w U) (hR : ∀ (o : String) (k : Nat) (t : String) (a : Nat), vk_R o k t a u → vk_R o k t a U) (hz : H.size ≤ H1.size) (hq : ∀ a : Nat, a < H.size → ¬ m_A base a → H1[a]? = H[a]?) : m_Fx ad base vF dC dI dA N xs U H1 := by
  obtain ⟨hK, hNw, hAO, ⟨hX, hXb, hXB⟩, hT5, hZ0, hZ1, hZ2, hStr, hRR, hbase, hvF, had⟩ := h
  have hbA : ¬ (m_A base) (ad 1000000) := fun q => by have : base ≤ ad 1000000 := q; omega
  refine ⟨hK.moved hvm, fun w hw => hN w hw (hNw w hw), hAO.moved hvm, ⟨(hX.moved hvm).kept (hq _ hXb hbA), by omega, hXB⟩, (hT5.moved hvm).kept hq, (hZ0.moved hvm).kept hq, (hZ1.moved hvm).kept hq, (hZ2.moved hvm).kept hq, fun k hk => ?_, fun k hk q hq2 => hR _ _ _ _ (hRR k hk q hq2), by omega, hvF, had⟩
  obtain ⟨g1, g2, g3, g4⟩ := hStr k hk
  exact ⟨(va_O.moved hvm g1).kept hq, (va_OF.moved hvm g2).kept hq, (va_OF.moved hvm g3).kept hq, (g4.moved hvm).kept hq⟩
theorem m_Fx_enter {s U : State} {H : Heap} {locs : List Loc} (h : m_Fx ad base vF dC dI dA N xs s s.heap) (hS : va_S (m_A base) s.heap H locs) (hU : U.heap = H) (hW : s.WarmedH U.vm) : m_Fx ad base vF dC dI dA N xs U U.heap := by
  rw [hU]
  exact m_Fx_to h hW.alike (m_nest_warm hW) (fun o k t a q => q.warm hW) hS.1 hS.2.1
theorem m_Fx_blind {U : State} {g : JFrame} {mk : MethodId} {a : Array Value} (h : m_Fx ad base vF dC dI dA N xs U U.heap) : m_Fx ad base vF dC dI dA N xs (U.calling g mk a) (U.calling g mk a).heap :=
  m_Fx_to (u := U) (U := U.calling g mk a) (H := U.heap) (H1 := (U.calling g mk a).heap) h (Vm.Alike.refl U.vm) (fun w hw q => va_Nw.same (u := U) (U := U.calling g mk a) (m_nest_on w hw) rfl q) (fun o k t b q => vk_R.same (u := U) (U := U.calling g mk a) rfl q) (Nat.le_refl _) (fun _ _ _ => rfl)
end FX
theorem m_op_mono {N : Nat} {xs : Nat → Int32} {ins : Instr} {aux : List Int} {pc pc' : Nat} {ls ls' : List (Option Value)} {st st' : List Value} {h h' : mH} (hop : m_op N xs ins aux pc ls st h = some (pc', ls', st', h')) : h.1.length ≤ h'.1.length ∧ m_sl h.1 ≤ m_sl h'.1 := by
  have e1 : ∀ {f : mF}, m_op1 ins aux pc ls st h = some f → f.2.2.2 = h := by
    intro f hf
    unfold m_op1 at hf
    repeat' (split at hf)
    all_goals first | (cases hf; rfl) | cases hf
  have e2 : ∀ {f : mF}, m_op2 ins pc ls st h = some f → f.2.2.2 = h := by
    intro f hf
    unfold m_op2 at hf
    repeat' (split at hf)
    all_goals first | (cases hf; rfl) | cases hf
  unfold m_op at hop
  split at hop
  · next f hf =>
    cases hop
    have := e1 hf
    simp only at this
    subst this
    exact ⟨Nat.le_refl _, Nat.le_refl _⟩
  · split at hop
    · next f hf =>
      cases hop
      have := e2 hf
      simp only at this
      subst this
      exact ⟨Nat.le_refl _, Nat.le_refl _⟩
    · have pf : ∀ {i c k : Nat} {kd : Int} {v : Value} {h2 : mH}, m_pf h i c k kd v = some h2 → h.1.length ≤ h2.1.length ∧ m_sl h.1 ≤ m_sl h2.1 := by
        intro i c k kd v h2 hv
        unfold m_pf at hv
        split at hv
        · next c' fs hs =>
          split at hv
          · split at hv
            · split at hv
              · cases hv; exact ⟨Nat.le_refl _, Nat.le_refl _⟩
              · split at hv
                · split at hv
                  · cases hv; exact ⟨Nat.le_refl _, Nat.le_refl _⟩
                  · cases hv
                · cases hv
            · split at hv
              · cases hv; exact ⟨Nat.le_refl _, Nat.le_refl _⟩
              · cases hv
            · split at hv
              · cases hv
                refine ⟨by simp, ?_⟩
                show m_sl h.1 ≤ m_sl (h.1.set i _)
                rw [m_sl_set hs (by simp [m_sl1])]
                exact Nat.le_refl _
              · cases hv
            · cases hv
          · cases hv
        · cases hv
      unfold m_op3 at hop
      split at hop
      all_goals (try (cases hop; done))
      · repeat' (split at hop)
        all_goals first | (cases hop; exact ⟨Nat.le_refl _, Nat.le_refl _⟩) | (cases hop; done)
      · split at hop
        · split at hop
          · next h2 hv => cases hop; exact pf hv
          · cases hop
        · cases hop
      · repeat' (split at hop)
        all_goals first | (cases hop; exact ⟨Nat.le_refl _, Nat.le_refl _⟩) | (cases hop; done)
      · repeat' (split at hop)
        all_goals first | (cases hop; exact ⟨Nat.le_refl _, Nat.le_refl _⟩) | (cases hop; done)
      · repeat' (split at hop)
        all_goals first | (cases hop; exact ⟨Nat.le_refl _, Nat.le_refl _⟩) | (cases hop; done)
      · repeat' (split at hop)
        all_goals first | (cases hop; exact ⟨Nat.le_refl _, Nat.le_refl _⟩) | (cases hop; done)
      · split at hop
        · split at hop
          · cases hop
          · cases hop; exact ⟨Nat.le_refl _, Nat.le_refl _⟩
        · cases hop
      · repeat' (split at hop)
        all_goals first | (cases hop; exact ⟨Nat.le_refl _, Nat.le_refl _⟩) | (cases hop; done)
      · repeat' (split at hop)
        all_goals first | (cases hop; exact ⟨Nat.le_refl _, Nat.le_refl _⟩) | (cases hop; done)
      · repeat' (split at hop)
        all_goals first | (cases hop; exact ⟨Nat.le_refl _, Nat.le_refl _⟩) | (cases hop; done)
      · split at hop
        · split at hop
          · cases hop
          · split at hop
            · cases hop
              exact ⟨by simp, Nat.le_of_eq (m_sl_set (by assumption) (by simp [m_sl1])).symm⟩
            · cases hop
        · cases hop
      · split at hop
        · split at hop
          · cases hop
            refine ⟨by simp, ?_⟩
            show m_sl h.1 ≤ m_sl (h.1 ++ _)
            rw [m_sl_app]; omega
          · cases hop
        · cases hop
      · split at hop
        · cases hop
        · split at hop
          · split at hop
            · cases hop
              refine ⟨by simp, ?_⟩
              show m_sl h.1 ≤ m_sl (h.1 ++ _)
              rw [m_sl_app]; omega
            · cases hop
              refine ⟨by simp, ?_⟩
              show m_sl h.1 ≤ m_sl (h.1 ++ _)
              rw [m_sl_app]; omega
            · cases hop
          · cases hop
      · split at hop
        · cases hop
        · split at hop
          · cases hop
            refine ⟨by simp, ?_⟩
            show m_sl h.1 ≤ m_sl (h.1 ++ _)
            rw [m_sl_app]; omega
          · cases hop
      · repeat' (split at hop)
        all_goals first | (cases hop; exact ⟨Nat.le_refl _, Nat.le_refl _⟩) | (cases hop; done)
theorem m_run_mono (tab : List mM) (N : Nat) (xs : Nat → Int32) : ∀ (n d : Nat) (e : mM) (pc : Nat) (ls : List (Option Value)) (st : List Value) (h : mH) (rv : Option Value) (h' : mH), m_run tab N xs n d e pc ls st h = some (rv, h') → h.1.length ≤ h'.1.length ∧ m_sl h.1 ≤ m_sl h'.1 := by
  intro n
  induction n with
  | zero => intro d e pc ls st h rv h' hr; cases hr
  | succ n ih =>
    intro d e pc ls st h rv h' hr
    unfold m_run at hr
    split at hr
    · cases hr
    · next ins aux hat =>
      split at hr
      · split at hr
        · cases hr; exact ⟨Nat.le_refl _, Nat.le_refl _⟩
        · cases hr
      · split at hr
        · split at hr
          · cases hr
          · split at hr
            · split at hr
              · next v h1 h2 =>
                have a1 := ih _ _ _ _ _ _ _ _ h2
                have a2 := ih _ _ _ _ _ _ _ _ hr
                exact ⟨Nat.le_trans a1.1 a2.1, Nat.le_trans a1.2 a2.2⟩
              · cases hr
            · cases hr
        · split at hr
          · next pc1 ls1 st1 h1 h2 =>
            have a1 := m_op_mono h2
            have a2 := ih _ _ _ _ _ _ _ _ hr
            exact ⟨Nat.le_trans a1.1 a2.1, Nat.le_trans a1.2 a2.2⟩
          · cases hr
/-- the entry's locals -/
theorem m_en_len (ad : Nat → Nat) {vF : Value} (hv : vF.category = 1) : ∀ As : List Value, (lg_sl (As.map (m_v ad vF))).length = (m_en As).length := by
  intro As
  induction As with
  | nil => rfl
  | cons a r ih =>
    have hc := m_v_cat (ad := ad) hv a
    simp only [List.map_cons, lg_sl, List.flatMap_cons, List.length_append] at ih ⊢
    rw [ih, hc]
    cases a <;> simp [m_en, Value.category] <;> omega
theorem m_en_lv (ad : Nat → Nat) {vF : Value} (hv : vF.category = 1) : ∀ (As : List Value) (i j : Nat) (v : Value), (m_en As)[j]? = some (some v) → (i + j, m_v ad vF v) ∈ lv_args i (As.map (m_v ad vF)) := by
  intro As
  induction As with
  | nil => intro i j v h; simp [m_en] at h
  | cons a r ih =>
    intro i j v h
    have hc := m_v_cat (ad := ad) hv a
    simp only [List.map_cons, lv_args, hc]
    have two : (m_en (a :: r)) = some a :: none :: m_en r → a.category = 2 → (i + j, m_v ad vF v) ∈ (i, m_v ad vF a) :: lv_args (if a.category = 2 then i + 2 else i + 1) (r.map (m_v ad vF)) := by
      intro e hc2
      rw [e] at h
      rw [if_pos hc2]
      match j, h with
      | 0, h => simp at h; subst h; exact List.mem_cons_self
      | 1, h => simp at h
      | j + 2, h =>
        have := ih (i + 2) j v (by simpa using h)
        rw [show i + 2 + j = i + (j + 2) by omega] at this
        exact List.mem_cons_of_mem _ this
    have one : (m_en (a :: r)) = some a :: m_en r → ¬ a.category = 2 → (i + j, m_v ad vF v) ∈ (i, m_v ad vF a) :: lv_args (if a.category = 2 then i + 2 else i + 1) (r.map (m_v ad vF)) := by
      intro e hc2
      rw [e] at h
      rw [if_neg hc2]
      match j, h with
      | 0, h => simp at h; subst h; exact List.mem_cons_self
      | j + 1, h =>
        have := ih (i + 1) j v (by simpa using h)
        rw [show i + 1 + j = i + (j + 1) by omega] at this
        exact List.mem_cons_of_mem _ this
    cases a <;> first | exact one rfl (by simp [Value.category]) | exact two rfl rfl
end
section
/-! WHAT A RUN OF THE SMALL MACHINE SAYS: the real method, from any heap that holds the same, comes to the same end -/
/-- a method's row in the table is so: its words stand there -/
def m_okH (y : mM) : Prop := plainName y.2.1.cls = true ∧ (y.2.1.cls ≠ "java/lang/invoke/MethodHandle" ∧ y.2.1.cls ≠ "java/lang/invoke/VarHandle") ∧ y.2.2.2.1 ≤ 60 ∧ Cond.code y.2.1 y.2.2.1 y.2.2.2.1 y.2.2.2.2.1 ∈ m_TW ∧ Cond.initialized y.2.1.cls ∈ m_TW ∧ (y.1 = 0 → Cond.static y.2.1 ∈ m_TW) ∧ (y.1 ≠ 0 → Cond.instanceMethod y.2.1 ∈ m_TW) ∧ (y.1 = 1 → Cond.selects y.2.1.cls y.2.1 y.2.1 ∈ m_TW) ∧ (y.1 = 2 → y.2.1.name = "<init>" ∧ y.2.2.2.2.1 = none) ∧
  (y.1 ≠ 0 → (y.2.2.2.2.2.1 = 99 ∧ y.2.1.cls = "java/lang/String") ∨ ∃ q, m_cl[y.2.2.2.2.2.1]? = some q ∧ q.1 = y.2.1.cls ∧ y.2.2.2.2.2.1 ≠ 99)
/-- its instructions are what its bytes say, with their words -/
def m_okC (tab : List mM) (y : mM) : Prop := ∀ q ∈ y.2.2.2.2.2.2.2, decode y.2.2.1 q.1 = .ok (q.2.1, m_len q.2.1 q.2.2) ∧ m_okI y.2.1.cls y.2.1.name tab q.1 q.2.1 q.2.2 = true
def m_okT (tab : List mM) : Prop := ∀ y ∈ tab, m_okH y ∧ m_okC tab y
theorem m_at_in {cd : List mI} {pc : Nat} {ins : Instr} {aux : List Int} (h : m_at cd pc = some (ins, aux)) : (pc, ins, aux) ∈ cd := by
  induction cd with
  | nil => cases h
  | cons a r ih =>
    obtain ⟨q, i, x⟩ := a
    simp only [m_at] at h
    split at h
    · next hq => cases h; subst hq; exact List.mem_cons_self
    · exact List.mem_cons_of_mem _ (ih h)
def m_wsy (y : mM) : List Cond := .code y.2.1 y.2.2.1 y.2.2.2.1 y.2.2.2.2.1 :: m_TW
theorem m_good {w : Cond} (h : w ∈ m_TW) : w ∈ m_TW ∧ ((w.onTables && w.keeps) = true ∨ ∃ ty, w = .arrayClass ty) := ⟨h, good_of_word (List.mem_filter.mp h).2⟩
theorem m_goodIn {ws : List Cond} (h : ∀ w ∈ ws, w ∈ m_TW) : GoodIn m_TW ws := fun w hw => m_good (h w hw)
def m_rm (d mc ms : Nat) : Room := { frames := d + 1, cells := mc, slots := ms, locals := 100 * d + 20 }
section MET
variable {ad : Nat → Nat} {base : Nat} {vF : Value} {dC : Nat → ClassId} {dI : Nat → Nat → Nat} {dA : Nat → Nat} {N : Nat} {xs : Nat → Int32} {tab : List mM}
/-- the world at a method's start .. -/
def m_Pw (ad : Nat → Nat) (base : Nat) (vF : Value) (dC : Nat → ClassId) (dI : Nat → Nat → Nat) (dA : Nat → Nat) (N : Nat) (xs : Nat → Int32) (h : mH) (U : State) : Prop := m_Fx ad base vF dC dI dA N xs U U.heap ∧ va_P (dC, dI) m_cl (m_ws dA ad h) U.heap ∧ U.heap.size = base + h.1.length ∧ h.1.length ≤ 1000000
/-- .. and at its end -/
def m_Qw (ad : Nat → Nat) (base : Nat) (vF : Value) (dC : Nat → ClassId) (dI : Nat → Nat → Nat) (dA : Nat → Nat) (rv : Option Value) (h' : mH) : Array Value → State → Outcome → State → Prop := fun _ st o t => o = .returned (rv.map (m_v ad vF)) ∧ va_P (dC, dI) m_cl (m_ws dA ad h') t.heap ∧ t.heap.size = base + h'.1.length ∧ h'.1.length ≤ 1000000 ∧ va_F (m_A base) st t
def m_Met (ad : Nat → Nat) (base : Nat) (vF : Value) (dC : Nat → ClassId) (dI : Nat → Nat → Nat) (dA : Nat → Nat) (N : Nat) (xs : Nat → Int32) (l : Launch) (d : Nat) (y : mM) (As : List Value) (h : mH) (rv : Option Value) (h' : mH) : Prop :=
  Met l y.2.1 (m_wsy y) (m_rm d (h'.1.length - h.1.length) (m_sl h'.1 - m_sl h.1)) (va_Pc (As.map (m_v ad vF)) (m_Pw ad base vF dC dI dA N xs h)) (m_Qw ad base vF dC dI dA rv h') (h'.1.length - h.1.length) (m_sl h'.1 - m_sl h.1) (m_A base)
theorem m_Pw_blind (As : List Value) (h : mH) : FrameBlind (va_Pc (As.map (m_v ad vF)) (m_Pw ad base vF dC dI dA N xs h)) := fun a U g mk q => ⟨q.1, m_Fx_blind q.2.1, q.2.2.1, q.2.2.2.1, q.2.2.2.2⟩
end MET
section MW
variable {p : Program} {l : Launch} {ev : Env} {R : Room} {s : State} {m : MethodId} {args : Array Value} {below : List Frame} {meth : Method} {c : Code} {H : Heap} {locs : List Loc} {cells slots : Nat} {Q : State → Prop}
variable {ad : Nat → Nat} {base : Nat} {vF : Value} {dC : Nat → ClassId} {dI : Nat → Nat → Nat} {dA : Nat → Nat} {N : Nat} {xs : Nat → Int32} {tab : List mM}
theorem m_callW {mc ms pc : Nat} {ls : Array Slot} {st0 rest : List Value} {Qa : State → Outcome → State → Prop} {free : Addr → Prop} (hr : va_Run p l ev R s m args below meth c H locs cells slots mc ms (F0 m pc ls st0) rest Qa free)
    (kk : ∀ (v : Option Value) (st₀ t : State) (L : List Loc), st₀.heap = H → Qa st₀ (.returned v) t → (∀ q ∈ L, free q.base) → W p l ev R s m args below meth c t.heap (locs ++ L) (cells + mc) (slots + ms) Q (F0 m (pc + 3) ls (v.toList ++ rest))) : W p l ev R s m args below meth c H locs cells slots Q (F0 m pc ls st0) := by
  intro T hT X
  obtain ⟨v, st₀, t, T', L, h0, X', hL, e1, e2, hq, st⟩ := hr T hT X
  obtain ⟨t2, a1, b1⟩ := kk v st₀ t L h0 hq hL T' e1 X'
  exact ⟨t2, st t2 a1, b1⟩
/-- the call of a method that has its contract -/
theorem m_call_ok {cc : ByteArray} {own nm : String} {pc nL d k : Nat} {lsA : Array Slot} {st : List Value} {h h1 : mH} {ins : Instr} {aux : List Int} {y : mM} {rv : Option Value}
    (hcall : m_call tab ins aux = some (y, k)) (hd : decode cc pc = .ok (ins, m_len ins aux)) (hok : m_okI own nm tab pc ins aux = true) (hT : m_okT tab) (hx : p.tables.exec = Jvm.exec) (hb : c.code = cc) (hml : c.maxLocals = nL) (hlsz : lsA.size = nL) (hown : s.vm.findClass own = some m.cls) (hts : ∀ w ∈ m_TW, w.before args s = true) (hF : m_Fx ad base vF dC dI dA N xs s s.heap)
    (hM : m_Met ad base vF dC dI dA N xs l d y (st.take k).reverse h rv h1) (hk : k ≤ st.length) (hcat : ((st.drop k).map fun v => v.category).sum ≤ 8) (hrecv : m_recv h y.1 y.2.2.2.2.2.1 (st.take k).reverse = true)
    (hP : va_P (dC, dI) m_cl (m_ws dA ad h) H) (hsz : H.size = base + h.1.length) (hlen : h.1.length ≤ 1000000) (hS : va_S (m_A base) s.heap H locs) (hmono : h.1.length ≤ h1.1.length ∧ m_sl h.1 ≤ m_sl h1.1) (hcells : cells + (h1.1.length - h.1.length) ≤ R.cells) (hslots : slots + (m_sl h1.1 - m_sl h.1) ≤ R.slots) (hroom : d + 2 ≤ R.frames ∧ 100 * (d + 1) + 20 ≤ R.locals)
    (kk : ∀ (H' : Heap) (locs' : List Loc) (cells' slots' : Nat), va_P (dC, dI) m_cl (m_ws dA ad h1) H' → H'.size = base + h1.1.length → h1.1.length ≤ 1000000 → va_S (m_A base) s.heap H' locs' → cells' + h.1.length = cells + h1.1.length → slots' + m_sl h.1 = slots + m_sl h1.1 → W p l ev R s m args below meth c H' locs' cells' slots' Q (F0 m (pc + 3) lsA ((rv.toList ++ st.drop k).map (m_v ad vF)))) :
    W p l ev R s m args below meth c H locs cells slots Q (F0 m pc lsA (st.map (m_v ad vF))) := by
  have hvF : vF.category = 1 := hF.2.2.2.2.2.2.2.2.2.2.2.1
  have hcat' : (((st.drop k).map (m_v ad vF)).map fun v => v.category).sum ≤ 8 := by
    rw [List.map_map, show ((fun v : Value => v.category) ∘ m_v ad vF) = (fun v => v.category) from funext fun w => m_v_cat hvF w]
    exact hcat
  have hst : st.map (m_v ad vF) = ((st.take k).reverse.map (m_v ad vF)).reverse ++ (st.drop k).map (m_v ad vF) := by
    rw [List.map_reverse, List.reverse_reverse, ← List.map_append, List.take_append_drop]
  have hPre : ∀ U : State, U.heap = H → s.WarmedH U.vm → va_Pc ((st.take k).reverse.map (m_v ad vF)) (m_Pw ad base vF dC dI dA N xs h) ((st.take k).reverse.map (m_v ad vF)).toArray U := fun U hU hW => ⟨rfl, m_Fx_enter hF hS hU hW, by rw [hU]; exact hP, by rw [hU]; exact hsz, hlen⟩
  have hrest : ∀ {mc ms : Nat}, mc = h1.1.length - h.1.length → ms = m_sl h1.1 - m_sl h.1 → va_Run p l ev R s m args below meth c H locs cells slots mc ms (F0 m pc lsA (st.map (m_v ad vF))) ((st.drop k).map (m_v ad vF)) (m_Qw ad base vF dC dI dA rv h1 ((st.take k).reverse.map (m_v ad vF)).toArray) (m_A base) → W p l ev R s m args below meth c H locs cells slots Q (F0 m pc lsA (st.map (m_v ad vF))) := by
    intro mc ms e1 e2 hr
    subst e1; subst e2
    refine m_callW hr fun v st₀ t L h0 hq hL => ?_
    obtain ⟨q1, q2, q3, q4, q5⟩ := hq
    cases q1
    rw [va_F, h0] at q5
    have h9 := kk t.heap (locs ++ L) (cells + (h1.1.length - h.1.length)) (slots + (m_sl h1.1 - m_sl h.1)) q2 q3 q4 ⟨Nat.le_trans hS.1 q5.1, fun q z1 z2 => by rw [q5.2 q (Nat.lt_of_lt_of_le z1 hS.1) z2]; exact hS.2.1 q z1 z2, fun q hq => by
      rcases List.mem_append.mp hq with z | z
      · exact hS.2.2 q z
      · exact hL q z⟩ (by omega) (by omega)
    cases rv <;> simpa using h9
  unfold m_call at hcall
  split at hcall
  · -- static
    next idx yi n pl nest =>
    split at hcall
    · next e hy =>
      split at hcall
      · next hk0 =>
        simp only [Option.some.injEq, Prod.mk.injEq] at hcall
        obtain ⟨rfl, rfl⟩ := hcall
        obtain ⟨⟨o1, o2, o3, o4, o5, o6, o7, o8, o9, o10⟩, -⟩ := hT e (List.mem_of_getElem? hy)
        simp only [m_okI, hy, Bool.and_eq_true, decide_eq_true_eq] at hok
        obtain ⟨hlink, hn⟩ := hok
        have hlenAs : ((st.take n.toNat).reverse.map (m_v ad vF)).length = n.toNat := by simp [hk]
        have hR : (m_rm d (h1.1.length - h.1.length) (m_sl h1.1 - m_sl h.1)).frames + 1 ≤ R.frames ∧ 8 + (e.2.2.2.1 + 11) + (m_rm d (h1.1.length - h.1.length) (m_sl h1.1 - m_sl h.1)).locals ≤ R.locals := by
          simp only [m_rm]; omega
        have hall : ∀ w ∈ m_wsy e, w ∈ m_TW := fun w hw => by
          rcases List.mem_cons.mp hw with rfl | hw
          · exact o4
          · exact hw
        split at hlink
        · refine hrest rfl rfl (va_runS (cc := cc) (nL := nL) (own := own) (Ts := m_TW) ⟨hx, hb, hml, hown, hts⟩ hM (va_cwS (ws' := m_TW) n.toNat hts (m_goodIn fun w hw => ?_) rfl rfl rfl ⟨o2.1, o2.2, hn⟩ hR) ⟨m_Pw_blind _ _, hPre⟩ rfl hlenAs hlsz (by rw [hst]) (by show 2 * 0 + _ ≤ 8; omega) hd ⟨hcells, hslots⟩)
          unfold va_wsS at hw
          rcases List.mem_append.mp hw with hw | hw
          · simp only [List.mem_cons, List.not_mem_nil, or_false] at hw
            rcases hw with rfl | rfl | rfl
            · exact m_w_in hlink
            · exact o6 hk0
            · exact o5
          · exact hall w hw
        · refine hrest rfl rfl (va_runSN (cc := cc) (nL := nL) (own := own) (Ts := m_TW) (host := "IsHeIn") ⟨hx, hb, hml, hown, hts⟩ hM ⟨va_cnB (ws' := m_TW) n.toNat hts (m_goodIn hall) rfl rfl rfl (hF.2.1 _ (m_nw_in hlink)) (hts _ o5) ⟨o2.1, o2.2, hn⟩ hR, hts _ (o6 hk0), trivial⟩ ⟨m_Pw_blind _ _, hPre⟩ rfl hlenAs hlsz (by rw [hst]) (by show 2 * 0 + _ ≤ 8; omega) hd ⟨hcells, hslots⟩)
      · cases hcall
    · cases hcall
  · -- virtual
    next idx yi n pl nest =>
    split at hcall
    · next e hy =>
      split at hcall
      · next hk1 =>
        simp only [Option.some.injEq, Prod.mk.injEq] at hcall
        obtain ⟨rfl, rfl⟩ := hcall
        obtain ⟨⟨o1, o2, o3, o4, o5, o6, o7, o8, o9, o10⟩, -⟩ := hT e (List.mem_of_getElem? hy)
        simp only [m_okI, hy, Bool.and_eq_true, decide_eq_true_eq] at hok
        obtain ⟨⟨-, hlink⟩, hn⟩ := hok
        have hne0 : e.1 ≠ 0 := by omega
        have hR : (m_rm d (h1.1.length - h.1.length) (m_sl h1.1 - m_sl h.1)).frames + 1 ≤ R.frames ∧ 8 + (e.2.2.2.1 + 11) + (m_rm d (h1.1.length - h.1.length) (m_sl h1.1 - m_sl h.1)).locals ≤ R.locals := by
          simp only [m_rm]; omega
        -- the receiver
        generalize hAs : (st.take (n.toNat + 1)).reverse = As at hrecv hM hPre hst hrest
        have hAl : As.length = n.toNat + 1 := by rw [← hAs]; simp [hk]
        unfold m_recv at hrecv
        rw [if_neg hne0] at hrecv
        match As, hrecv, hAl with
        | .ref j :: As', hrecv, hAl =>
          simp only at hrecv
          have hrc : ∃ cellB : Cell, H[ad j]? = some cellB ∧ cellB.vm.isStatics = false ∧ s.vm.findClass e.2.1.cls = some cellB.cls := by
            rcases o10 hne0 with ⟨r1, r2⟩ | ⟨q, r1, r2, r3⟩
            · rw [if_pos r1] at hrecv
              obtain ⟨j', rfl, hj'⟩ := m_key1 j (of_decide_eq_true hrecv)
              obtain ⟨g1, -⟩ := hF.2.2.2.2.2.2.2.2.1 j' hj'
              obtain ⟨cell, c1, c2, c3, -⟩ := g1.kept hS.2.1
              exact ⟨cell, c1, c2, by rw [r2]; exact c3⟩
            · rw [if_neg r3] at hrecv
              split at hrecv
              · next ci fs hs =>
                have hci : ci = e.2.2.2.2.2.1 := by simpa using hrecv
                subst hci
                rw [← r2]
                exact va_recv hF.1 hP r1 (m_ws_get hs)
              · cases hrecv
          refine hrest rfl rfl (va_runV (cc := cc) (nL := nL) (own := own) (Ts := m_TW) (C := e.2.1.cls) (b := ad j) (As := As'.map (m_v ad vF)) ⟨hx, hb, hml, hown, hts⟩ hM (cwV (ws' := m_TW) n.toNat hts (m_goodIn fun w hw => ?_) rfl rfl rfl ⟨rfl, o2.1, o2.2, hn⟩ hR) ⟨m_Pw_blind _ _, hrc, hPre⟩ rfl (by simpa using hAl) hlsz (by rw [hst]; simp [m_v]) (by show 2 * 0 + _ ≤ 8; omega) hd ⟨hcells, hslots⟩)
          unfold wsV at hw
          rcases List.mem_append.mp hw with hw | hw
          · simp only [List.mem_cons, List.not_mem_nil, or_false] at hw
            rcases hw with rfl | rfl | rfl | rfl
            · exact m_w_in hlink
            · exact o7 hne0
            · exact o8 hk1
            · exact o5
          · rcases List.mem_cons.mp hw with rfl | hw
            · exact o4
            · exact hw
        | .int _ :: _, hrecv, hAl => cases hrecv
        | .long _ :: _, hrecv, hAl => cases hrecv
        | .float _ :: _, hrecv, hAl => cases hrecv
        | .double _ :: _, hrecv, hAl => cases hrecv
        | .null :: _, hrecv, hAl => cases hrecv
        | .retAddr _ :: _, hrecv, hAl => cases hrecv
        | [], hrecv, hAl => cases hrecv
      · cases hcall
    · cases hcall
  · -- a constructor
    next idx yi n pl nest =>
    split at hcall
    · cases hcall
    · next hy0 =>
      split at hcall
      · next e hy =>
        split at hcall
        · next hk2 =>
          simp only [Option.some.injEq, Prod.mk.injEq] at hcall
          obtain ⟨rfl, rfl⟩ := hcall
          obtain ⟨⟨o1, o2, o3, o4, o5, o6, o7, o8, o9, o10⟩, -⟩ := hT e (List.mem_of_getElem? hy)
          have hok2 : (if nest = 0 then m_w pl (.methodLink own idx e.2.1) else m_nw pl (.methodLinkNest own idx e.2.1 "IsHeIn")) = true ∧ (parseMethodDescriptor e.2.1.desc).map (fun d => d.parameters.length) = some n.toNat := by
            simp only [m_okI, if_neg hy0, hy, Bool.and_eq_true, decide_eq_true_eq] at hok
            exact hok
          obtain ⟨hlink, hn⟩ := hok2
          have hne0 : e.1 ≠ 0 := by omega
          have hR : (m_rm d (h1.1.length - h.1.length) (m_sl h1.1 - m_sl h.1)).frames + 1 ≤ R.frames ∧ 8 + (e.2.2.2.1 + 11) + (m_rm d (h1.1.length - h.1.length) (m_sl h1.1 - m_sl h.1)).locals ≤ R.locals := by
            simp only [m_rm]; omega
          have hall : ∀ w ∈ m_wsy e, w ∈ m_TW := fun w hw => by
            rcases List.mem_cons.mp hw with rfl | hw
            · exact o4
            · exact hw
          obtain ⟨hn1, hn2⟩ := o9 hk2
          have hws : m_wsy e = Cond.code e.2.1 e.2.2.1 e.2.2.2.1 none :: m_TW := by unfold m_wsy; rw [hn2]
          generalize hAs : (st.take (n.toNat + 1)).reverse = As at hrecv hM hPre hst hrest
          have hAl : As.length = n.toNat + 1 := by rw [← hAs]; simp [hk]
          unfold m_recv at hrecv
          rw [if_neg hne0] at hrecv
          match As, hrecv, hAl with
          | .ref j :: As', hrecv, hAl =>
            split at hlink
            · exact hrest rfl rfl (va_runI (cc := cc) (nL := nL) (own := own) (Ts := m_TW) (b := ad j) (As := As'.map (m_v ad vF)) ⟨hx, hb, hml, hown, hts⟩ hM (cwI (bytes := e.2.2.1) (maxL := e.2.2.2.1) (ws' := m_TW) n.toNat hts (m_goodIn hall) hws rfl rfl (hts _ o5) (hts _ (m_w_in hlink)) (hts _ (o7 hne0)) hn1 ⟨o2.1, o2.2, hn⟩ hR) ⟨m_Pw_blind _ _, hPre⟩ rfl (by simpa using hAl) hlsz (by rw [hst]; simp [m_v]) (by show 2 * 0 + _ ≤ 8; omega) hd ⟨hcells, hslots⟩)
            · exact hrest rfl rfl (va_runIN (cc := cc) (nL := nL) (own := own) (Ts := m_TW) (host := "IsHeIn") (b := ad j) (As := As'.map (m_v ad vF)) ⟨hx, hb, hml, hown, hts⟩ hM ⟨va_cnB (bytes := e.2.2.1) (maxL := e.2.2.2.1) (ws' := m_TW) n.toNat hts (m_goodIn hall) hws rfl rfl (hF.2.1 _ (m_nw_in hlink)) (hts _ o5) ⟨o2.1, o2.2, hn⟩ hR, hn1, hts _ (o7 hne0)⟩ ⟨m_Pw_blind _ _, hPre⟩ rfl (by simpa using hAl) hlsz (by rw [hst]; simp [m_v]) (by show 2 * 0 + _ ≤ 8; omega) hd ⟨hcells, hslots⟩)
          | .int _ :: _, hrecv, hAl => cases hrecv
          | .long _ :: _, hrecv, hAl => cases hrecv
          | .float _ :: _, hrecv, hAl => cases hrecv
          | .double _ :: _, hrecv, hAl => cases hrecv
          | .null :: _, hrecv, hAl => cases hrecv
          | .retAddr _ :: _, hrecv, hAl => cases hrecv
          | [], hrecv, hAl => cases hrecv
        · cases hcall
      · cases hcall
  · cases hcall
end MW
end
section
section RW
variable {ad : Nat → Nat} {base : Nat} {vF : Value} {dC : Nat → ClassId} {dI : Nat → Nat → Nat} {dA : Nat → Nat} {N : Nat} {xs : Nat → Int32} {tab : List mM}
/-- a run of n steps at most is the real one, whatever is wanted behind its end -/
def m_RunW (ad : Nat → Nat) (base : Nat) (vF : Value) (dC : Nat → ClassId) (dI : Nat → Nat → Nat) (dA : Nat → Nat) (N : Nat) (xs : Nat → Int32) (tab : List mM) (n : Nat) : Prop :=
  ∀ (d : Nat) (e : mM) (pc : Nat) (ls : List (Option Value)) (st : List Value) (h : mH) (rv : Option Value) (h' : mH), m_run tab N xs n d e pc ls st h = some (rv, h') → m_okC tab e →
    ∀ {p : Program} {l : Launch} {ev : Env} {R : Room} {s : State} {m : MethodId} {args : Array Value} {below : List Frame} {meth : Method} {c : Code} {Q : State → Prop} {H : Heap} {locs : List Loc} {cells slots : Nat} {lsA : Array Slot},
      p.tables.exec = Jvm.exec → c.code = e.2.2.1 → c.maxLocals = e.2.2.2.1 → s.vm.findClass e.2.1.cls = some m.cls → e.2.1.name = meth.name → (∀ w ∈ m_TW, w.before args s = true) → m_Fx ad base vF dC dI dA N xs s s.heap → d + 1 ≤ R.frames ∧ 100 * d + 20 ≤ R.locals →
      va_P (dC, dI) m_cl (m_ws dA ad h) H → H.size = base + h.1.length → h.1.length ≤ 1000000 → va_S (m_A base) s.heap H locs → m_LH ad vF lsA e.2.2.2.1 ls → ls.length = e.2.2.2.1 → cells + (h'.1.length - h.1.length) ≤ R.cells → slots + (m_sl h'.1 - m_sl h.1) ≤ R.slots →
      (∀ (pc' : Nat) (ins : Instr) (aux : List Int) (st' : List Value) (H' : Heap) (locs' : List Loc) (cells' slots' : Nat) (lsA' : Array Slot), m_isRet ins = true → decode e.2.2.1 pc' = .ok (ins, m_len ins aux) → m_ret e.2.2.2.2.1 ins st' = some rv → va_P (dC, dI) m_cl (m_ws dA ad h') H' → H'.size = base + h'.1.length → h'.1.length ≤ 1000000 → va_S (m_A base) s.heap H' locs' → cells' + h.1.length = cells + h'.1.length → slots' + m_sl h.1 = slots + m_sl h'.1 → W p l ev R s m args below meth c H' locs' cells' slots' Q (F0 m pc' lsA' (st'.map (m_v ad vF)))) →
      W p l ev R s m args below meth c H locs cells slots Q (F0 m pc lsA (st.map (m_v ad vF)))
/-- so a method that is run from its entry has its contract -/
theorem m_met_of {n : Nat} (hR : m_RunW ad base vF dC dI dA N xs tab n) {d : Nat} {y : mM} {As : List Value} {h : mH} {rv : Option Value} {h' : mH} (hr : m_run tab N xs n d y 0 (m_en As ++ List.replicate (y.2.2.2.1 - (m_en As).length) none) [] h = some (rv, h')) (hH : m_okH y) (hC : m_okC tab y) (hl : (m_en As).length ≤ y.2.2.2.1) (l : Launch) :
    m_Met ad base vF dC dI dA N xs l d y As h rv h' := by
  have hmono := m_run_mono tab N xs _ _ _ _ _ _ _ _ _ hr
  refine Met.ofW (cc := y.2.2.1) (maxL := y.2.2.2.1) (ret := y.2.2.2.2.1) hH.1 rfl ?_
  intro p e s m args below meth c s₁ B hml hv
  obtain ⟨rfl, hF, hP, hsz, hlen⟩ := hv
  have hts0 := atoms_spec (ws := m_wsy y) B.pre
  have hown : s.vm.findClass y.2.1.cls = some m.cls := findClass_of_methodNamed B.named
  have hlocks := B.notSynchronized
  have hrt := B.returns
  have hx := B.exec
  have hb := B.bytes
  have hvF : vF.category = 1 := hF.2.2.2.2.2.2.2.2.2.2.2.1
  have hlen2 := m_en_len ad hvF As
  have hS : va_S (m_A base) s.heap s.heap [] := va_S.rf
  have hL := lv_entry (As.map (m_v ad vF)) (n := y.2.2.2.1) (by omega)
  rw [lg_entry_eq]
  generalize (lg_sl (As.map (m_v ad vF)) ++ List.replicate (y.2.2.2.1 - (lg_sl (As.map (m_v ad vF))).length) Slot.unset).toArray = lsA at hL ⊢
  have hLH : m_LH ad vF lsA y.2.2.2.1 (m_en As ++ List.replicate (y.2.2.2.1 - (m_en As).length) none) := by
    refine m_LH.of hL fun i v hi => ?_
    by_cases hlt : i < (m_en As).length
    · rw [List.getElem?_append_left hlt] at hi
      simpa using m_en_lv ad hvF As 0 i v hi
    · rw [List.getElem?_append_right (by omega), List.getElem?_replicate] at hi
      split at hi <;> cases hi
  refine hR d y 0 _ [] h rv h' hr hC hx hb hml hown (name_of_methodNamed B.named B.method).1.symm (fun w hw => hts0 w (List.mem_cons_of_mem _ hw)) hF ⟨Nat.le_refl _, Nat.le_refl _⟩ hP hsz hlen hS hLH (by simp; omega) (by show 0 + _ ≤ h'.1.length - h.1.length; omega) (by show 0 + _ ≤ m_sl h'.1 - m_sl h.1; omega) ?_
  intro pc' ins aux st' H' locs' cells' slots' lsA' hisr hd hret hP' hsz' hlen' hS' hc hs
  obtain rfl : cells' = h'.1.length - h.1.length := by omega
  obtain rfl : slots' = m_sl h'.1 - m_sl h.1 := by omega
  have fin : ∀ {v : Option Value}, v = rv.map (m_v ad vF) → ∀ t : State, t.heap = H' → s.WarmedH t.vm → m_Qw ad base vF dC dI dA rv h' (As.map (m_v ad vF)).toArray s (.returned v) t := fun e t ht hW => ⟨by rw [e], by rw [ht]; exact hP', by rw [ht]; exact hsz', hlen', hS'.F ht⟩
  unfold m_ret at hret
  split at hret
  · split at hret
    · next hr0 =>
      cases hret
      exact W.vret hx hb (by rw [hrt]; exact hr0) (fin rfl) hS'.2.2 hd
    · cases hret
  · next v =>
    split at hret
    · next hr0 =>
      cases hret
      exact W.zret hx hb (by rw [hrt]; exact hr0) rfl (fin rfl) hS'.2.2 hd
    · next hr0 =>
      split at hret
      · next hv =>
        cases hret
        exact W.zret hx hb (by rw [hrt]; exact hr0) (by rcases hv with rfl | rfl <;> decide) (fin rfl) hS'.2.2 hd
      · cases hret
    · next hr0 =>
      split at hret
      · next hv =>
        cases hret
        exact W.zret hx hb (by rw [hrt]; exact hr0) (by simp only [narrow, hv]) (fin rfl) hS'.2.2 hd
      · cases hret
    · next hr0 =>
      split at hret
      · next hv =>
        cases hret
        exact W.zret hx hb (by rw [hrt]; exact hr0) (by simp only [narrow, hv]) (fin rfl) hS'.2.2 hd
      · cases hret
    · cases hret
  · next v =>
    split at hret
    · next hr0 =>
      cases hret
      exact W.lret hx hb (by rw [hrt]; exact hr0) (fin rfl) hS'.2.2 hd
    · cases hret
  · next j =>
    split at hret
    · next o hr0 =>
      cases hret
      exact W.aret hx hb (by rw [hrt]; exact hr0) (Or.inl ⟨_, rfl⟩) (Or.inr ⟨_, rfl⟩) (fin rfl) hS'.2.2 hd
    · cases hret
  · split at hret
    · next o hr0 =>
      cases hret
      exact W.aret hx hb (by rw [hrt]; exact hr0) (Or.inl ⟨_, rfl⟩) (Or.inl rfl) (fin rfl) hS'.2.2 hd
    · cases hret
  · cases hret
theorem m_run_W (hT : m_okT tab) : ∀ n, m_RunW ad base vF dC dI dA N xs tab n := by
  intro n
  induction n with
  | zero => intro d e pc ls st h rv h' hr; cases hr
  | succ n ih =>
    intro d e pc ls st h rv h' hr hC p l ev R s m args below meth c Q H locs cells slots lsA hx hb hml hown hnm hts hF hroom hP hsz hlen hS hLH hlsl hcells hslots kk
    unfold m_run at hr
    split at hr
    · cases hr
    · next ins aux hat =>
      obtain ⟨hd, hok⟩ := hC _ (m_at_in hat)
      split at hr
      · next hisr =>
        split at hr
        · next v hret =>
          cases hr
          exact kk pc ins aux st H locs cells slots lsA hisr hd hret hP hsz hlen hS rfl rfl
        · cases hr
      · split at hr
        · next y k hcall =>
          split at hr
          · cases hr
          · next d' =>
            split at hr
            · next hcond =>
              obtain ⟨hk, hcat, hrecv, hel⟩ := hcond
              split at hr
              · next v h1 hrun =>
                have hy : y ∈ tab := by
                  unfold m_call at hcall
                  split at hcall
                  · split at hcall
                    · next e1 he1 =>
                      split at hcall
                      · cases hcall; exact List.mem_of_getElem? he1
                      · cases hcall
                    · cases hcall
                  · split at hcall
                    · next e1 he1 =>
                      split at hcall
                      · cases hcall; exact List.mem_of_getElem? he1
                      · cases hcall
                    · cases hcall
                  · split at hcall
                    · cases hcall
                    · split at hcall
                      · next e1 he1 =>
                        split at hcall
                        · cases hcall; exact List.mem_of_getElem? he1
                        · cases hcall
                      · cases hcall
                  · cases hcall
                have hM := m_met_of ih hrun (hT y hy).1 (hT y hy).2 hel l
                have m1 := m_run_mono tab N xs _ _ _ _ _ _ _ _ _ hrun
                have m2 := m_run_mono tab N xs _ _ _ _ _ _ _ _ _ hr
                refine m_call_ok (tab := tab) (own := e.2.1.cls) (nm := e.2.1.name) (nL := e.2.2.2.1) hcall hd hok hT hx hb hml hLH.1 hown hts hF hM hk hcat hrecv hP hsz hlen hS m1 (by omega) (by omega) ⟨by omega, by omega⟩ fun H' locs' cells' slots' hP' hsz' hlen' hS' hc hs => ?_
                refine ih (d' + 1) e (pc + 3) ls (v.toList ++ st.drop k) h1 rv h' hr hC hx hb hml hown hnm hts hF hroom hP' hsz' hlen' hS' hLH hlsl (by omega) (by omega) ?_
                intro pc2 ins2 aux2 st2 H2 locs2 cells2 slots2 lsA2 a1 a2 a3 a4 a5 a6 a7 a8 a9
                exact kk pc2 ins2 aux2 st2 H2 locs2 cells2 slots2 lsA2 a1 a2 a3 a4 a5 a6 a7 (by omega) (by omega)
              · cases hr
            · cases hr
        · split at hr
          · next pc1 ls1 st1 h1 hop =>
            have m1 := m_op_mono hop
            have m2 := m_run_mono tab N xs _ _ _ _ _ _ _ _ _ hr
            have go : ∀ (H' : Heap) (locs' : List Loc) (cells' slots' : Nat) (lsA' : Array Slot), ls1.length = e.2.2.2.1 → m_LH ad vF lsA' e.2.2.2.1 ls1 → va_P (dC, dI) m_cl (m_ws dA ad h1) H' → H'.size = base + h1.1.length → h1.1.length ≤ 1000000 → va_S (m_A base) s.heap H' locs' → cells' + h.1.length = cells + h1.1.length → slots' + m_sl h.1 = slots + m_sl h1.1 → W p l ev R s m args below meth c H' locs' cells' slots' Q (F0 m pc1 lsA' (st1.map (m_v ad vF))) := by
              intro H' locs' cells' slots' lsA' hll hLH' hP' hsz' hlen' hS' hc hs
              refine ih d e pc1 ls1 st1 h1 rv h' hr hC hx hb hml hown hnm hts hF hroom hP' hsz' hlen' hS' hLH' hll (by omega) (by omega) ?_
              intro pc2 ins2 aux2 st2 H2 locs2 cells2 slots2 lsA2 a1 a2 a3 a4 a5 a6 a7 a8 a9
              exact kk pc2 ins2 aux2 st2 H2 locs2 cells2 slots2 lsA2 a1 a2 a3 a4 a5 a6 a7 (by omega) (by omega)
            unfold m_op at hop
            split at hop
            · next f hf =>
              cases hop
              exact m_op1_ok (own := e.2.1.cls) (nm := e.2.1.name) hf hd hok hx hb hown hts hF hlsl hLH fun e1 e2 lsA' e3 => by
                subst e1
                exact go H locs cells slots lsA' e2 e3 hP hsz hlen hS rfl rfl
            · split at hop
              · next f hf =>
                cases hop
                exact m_op2_ok (own := e.2.1.cls) (nm := e.2.1.name) hf hd hok hx hb fun e1 e2 => by
                  subst e1
                  subst e2
                  exact go H locs cells slots lsA hlsl hLH hP hsz hlen hS rfl rfl
              · refine m_op3_ok (own := e.2.1.cls) (nm := e.2.1.name) hop hd hok hx hb (by rw [hml]; exact hLH.1) hown hts hF hnm hP hsz hlen hS (by omega) (by omega) ⟨by omega, by omega⟩ fun H' locs' cells' slots' e2 hP' hsz' hlen' hS' hc hs => ?_
                subst e2
                exact go H' locs' cells' slots' lsA hlsl hLH hP' hsz' hlen' hS' hc hs
          · cases hr
end RW
end
