-- ===== PART A: goes FIRST, ahead of the names: the tables' words, and 'selects' of the private methods out of them =====
/-- a private method of a class that the tables say can be made, by its rows of tables_1 -/
def lw_okq (q : MethodName × Nat) : Prop := (q.1.cls ≠ "java/lang/invoke/MethodHandle" ∧ q.1.cls ≠ "java/lang/invoke/VarHandle") ∧ Cond.instantiable q.1.cls q.2 ∈ tables_1 ∧ Cond.privateMethod q.1 ∈ tables_1 ∧ Cond.instanceMethod q.1 ∈ tables_1
theorem lw_p0 : lw_okq (⟨"HillBoxes", "mayBeAsked", "(II)Z"⟩, 6) := ⟨⟨by decide +kernel, by decide +kernel⟩, List.mem_of_getElem? (i := 23) (by decide +kernel), List.mem_of_getElem? (i := 453) (by decide +kernel), List.mem_of_getElem? (i := 454) (by decide +kernel)⟩
theorem lw_p1 : lw_okq (⟨"HillBoxes$Rules", "work", "(I)I"⟩, 16) := ⟨⟨by decide +kernel, by decide +kernel⟩, List.mem_of_getElem? (i := 83) (by decide +kernel), List.mem_of_getElem? (i := 483) (by decide +kernel), List.mem_of_getElem? (i := 484) (by decide +kernel)⟩
theorem lw_p2 : lw_okq (⟨"HillBoxes$Rules", "numberOf", "(I)I"⟩, 16) := ⟨⟨by decide +kernel, by decide +kernel⟩, List.mem_of_getElem? (i := 83) (by decide +kernel), List.mem_of_getElem? (i := 487) (by decide +kernel), List.mem_of_getElem? (i := 488) (by decide +kernel)⟩
theorem lw_p3 : lw_okq (⟨"HillBoxes$Rules", "push", "(II)I"⟩, 16) := ⟨⟨by decide +kernel, by decide +kernel⟩, List.mem_of_getElem? (i := 83) (by decide +kernel), List.mem_of_getElem? (i := 510) (by decide +kernel), List.mem_of_getElem? (i := 511) (by decide +kernel)⟩
theorem lw_p4 : lw_okq (⟨"HillBoxes$Rules", "read", "(I)I"⟩, 16) := ⟨⟨by decide +kernel, by decide +kernel⟩, List.mem_of_getElem? (i := 83) (by decide +kernel), List.mem_of_getElem? (i := 514) (by decide +kernel), List.mem_of_getElem? (i := 515) (by decide +kernel)⟩
theorem lw_p5 : lw_okq (⟨"HillBoxes$Rules", "leavesLet", "(LHillBoxes$Finder;II)Z"⟩, 16) := ⟨⟨by decide +kernel, by decide +kernel⟩, List.mem_of_getElem? (i := 83) (by decide +kernel), List.mem_of_getElem? (i := 527) (by decide +kernel), List.mem_of_getElem? (i := 528) (by decide +kernel)⟩
theorem lw_p6 : lw_okq (⟨"HillBoxes$Rules", "isNearKnown", "(II)Z"⟩, 16) := ⟨⟨by decide +kernel, by decide +kernel⟩, List.mem_of_getElem? (i := 83) (by decide +kernel), List.mem_of_getElem? (i := 535) (by decide +kernel), List.mem_of_getElem? (i := 536) (by decide +kernel)⟩
theorem lw_p7 : lw_okq (⟨"HillBoxes$Rules", "isNearSecret", "(II)Z"⟩, 16) := ⟨⟨by decide +kernel, by decide +kernel⟩, List.mem_of_getElem? (i := 83) (by decide +kernel), List.mem_of_getElem? (i := 548) (by decide +kernel), List.mem_of_getElem? (i := 549) (by decide +kernel)⟩
theorem lw_p8 : lw_okq (⟨"HillBoxes", "ofFinder", "(LHillBoxes$Finder;I)I"⟩, 6) := ⟨⟨by decide +kernel, by decide +kernel⟩, List.mem_of_getElem? (i := 23) (by decide +kernel), List.mem_of_getElem? (i := 735) (by decide +kernel), List.mem_of_getElem? (i := 736) (by decide +kernel)⟩
theorem lw_p9 : lw_okq (⟨"HillBoxes", "ofThing", "(LHillBoxes$Thing;I)I"⟩, 6) := ⟨⟨by decide +kernel, by decide +kernel⟩, List.mem_of_getElem? (i := 23) (by decide +kernel), List.mem_of_getElem? (i := 744) (by decide +kernel), List.mem_of_getElem? (i := 745) (by decide +kernel)⟩
theorem lw_p10 : lw_okq (⟨"HillBoxes$Tape", "splitIntoTokens", "()V"⟩, 11) := ⟨⟨by decide +kernel, by decide +kernel⟩, List.mem_of_getElem? (i := 89) (by decide +kernel), List.mem_of_getElem? (i := 796) (by decide +kernel), List.mem_of_getElem? (i := 797) (by decide +kernel)⟩
theorem lw_p11 : lw_okq (⟨"HillBoxes$Tape", "skipBlanks", "()V"⟩, 11) := ⟨⟨by decide +kernel, by decide +kernel⟩, List.mem_of_getElem? (i := 89) (by decide +kernel), List.mem_of_getElem? (i := 800) (by decide +kernel), List.mem_of_getElem? (i := 801) (by decide +kernel)⟩
theorem lw_p12 : lw_okq (⟨"HillBoxes$Tape", "byteAt", "(I)I"⟩, 11) := ⟨⟨by decide +kernel, by decide +kernel⟩, List.mem_of_getElem? (i := 89) (by decide +kernel), List.mem_of_getElem? (i := 804) (by decide +kernel), List.mem_of_getElem? (i := 805) (by decide +kernel)⟩
theorem lw_p13 : lw_okq (⟨"HillBoxes$Tape", "readWord", "(I)V"⟩, 11) := ⟨⟨by decide +kernel, by decide +kernel⟩, List.mem_of_getElem? (i := 89) (by decide +kernel), List.mem_of_getElem? (i := 811) (by decide +kernel), List.mem_of_getElem? (i := 812) (by decide +kernel)⟩
theorem lw_p14 : lw_okq (⟨"HillBoxes$Tape", "wordNumber", "(II)I"⟩, 11) := ⟨⟨by decide +kernel, by decide +kernel⟩, List.mem_of_getElem? (i := 89) (by decide +kernel), List.mem_of_getElem? (i := 815) (by decide +kernel), List.mem_of_getElem? (i := 816) (by decide +kernel)⟩
theorem lw_p15 : lw_okq (⟨"HillBoxes$Tape", "isWord", "(III)Z"⟩, 11) := ⟨⟨by decide +kernel, by decide +kernel⟩, List.mem_of_getElem? (i := 89) (by decide +kernel), List.mem_of_getElem? (i := 868) (by decide +kernel), List.mem_of_getElem? (i := 869) (by decide +kernel)⟩
def lw_privs_1 : List (MethodName × Nat) := [(⟨"HillBoxes", "mayBeAsked", "(II)Z"⟩, 6), (⟨"HillBoxes$Rules", "work", "(I)I"⟩, 16), (⟨"HillBoxes$Rules", "numberOf", "(I)I"⟩, 16), (⟨"HillBoxes$Rules", "push", "(II)I"⟩, 16), (⟨"HillBoxes$Rules", "read", "(I)I"⟩, 16), (⟨"HillBoxes$Rules", "leavesLet", "(LHillBoxes$Finder;II)Z"⟩, 16), (⟨"HillBoxes$Rules", "isNearKnown", "(II)Z"⟩, 16), (⟨"HillBoxes$Rules", "isNearSecret", "(II)Z"⟩, 16), (⟨"HillBoxes", "ofFinder", "(LHillBoxes$Finder;I)I"⟩, 6), (⟨"HillBoxes", "ofThing", "(LHillBoxes$Thing;I)I"⟩, 6), (⟨"HillBoxes$Tape", "splitIntoTokens", "()V"⟩, 11), (⟨"HillBoxes$Tape", "skipBlanks", "()V"⟩, 11), (⟨"HillBoxes$Tape", "byteAt", "(I)I"⟩, 11), (⟨"HillBoxes$Tape", "readWord", "(I)V"⟩, 11), (⟨"HillBoxes$Tape", "wordNumber", "(II)I"⟩, 11), (⟨"HillBoxes$Tape", "isWord", "(III)Z"⟩, 11)]
theorem lw_r1 : ∀ q ∈ lw_privs_1, lw_okq q := List.forall_mem_cons.mpr ⟨lw_p0, List.forall_mem_cons.mpr ⟨lw_p1, List.forall_mem_cons.mpr ⟨lw_p2, List.forall_mem_cons.mpr ⟨lw_p3, List.forall_mem_cons.mpr ⟨lw_p4, List.forall_mem_cons.mpr ⟨lw_p5, List.forall_mem_cons.mpr ⟨lw_p6, List.forall_mem_cons.mpr ⟨lw_p7, List.forall_mem_cons.mpr ⟨lw_p8, List.forall_mem_cons.mpr ⟨lw_p9, List.forall_mem_cons.mpr ⟨lw_p10, List.forall_mem_cons.mpr ⟨lw_p11, List.forall_mem_cons.mpr ⟨lw_p12, List.forall_mem_cons.mpr ⟨lw_p13, List.forall_mem_cons.mpr ⟨lw_p14, List.forall_mem_cons.mpr ⟨lw_p15, fun _ h => absurd h List.not_mem_nil⟩⟩⟩⟩⟩⟩⟩⟩⟩⟩⟩⟩⟩⟩⟩⟩
theorem lw_p16 : lw_okq (⟨"HillBoxes$Tape", "readNumber", "(I)V"⟩, 11) := ⟨⟨by decide +kernel, by decide +kernel⟩, List.mem_of_getElem? (i := 89) (by decide +kernel), List.mem_of_getElem? (i := 875) (by decide +kernel), List.mem_of_getElem? (i := 876) (by decide +kernel)⟩
theorem lw_p17 : lw_okq (⟨"HillBoxes$Tape", "readLine", "()V"⟩, 11) := ⟨⟨by decide +kernel, by decide +kernel⟩, List.mem_of_getElem? (i := 89) (by decide +kernel), List.mem_of_getElem? (i := 935) (by decide +kernel), List.mem_of_getElem? (i := 936) (by decide +kernel)⟩
theorem lw_p18 : lw_okq (⟨"HillBoxes$Tape", "advance", "()V"⟩, 11) := ⟨⟨by decide +kernel, by decide +kernel⟩, List.mem_of_getElem? (i := 89) (by decide +kernel), List.mem_of_getElem? (i := 939) (by decide +kernel), List.mem_of_getElem? (i := 940) (by decide +kernel)⟩
theorem lw_p19 : lw_okq (⟨"HillBoxes$Tape", "readEither", "(I)V"⟩, 11) := ⟨⟨by decide +kernel, by decide +kernel⟩, List.mem_of_getElem? (i := 89) (by decide +kernel), List.mem_of_getElem? (i := 943) (by decide +kernel), List.mem_of_getElem? (i := 944) (by decide +kernel)⟩
theorem lw_p20 : lw_okq (⟨"HillBoxes$Tape", "readBoth", "(I)V"⟩, 11) := ⟨⟨by decide +kernel, by decide +kernel⟩, List.mem_of_getElem? (i := 89) (by decide +kernel), List.mem_of_getElem? (i := 947) (by decide +kernel), List.mem_of_getElem? (i := 948) (by decide +kernel)⟩
theorem lw_p21 : lw_okq (⟨"HillBoxes$Tape", "readDenied", "(I)V"⟩, 11) := ⟨⟨by decide +kernel, by decide +kernel⟩, List.mem_of_getElem? (i := 89) (by decide +kernel), List.mem_of_getElem? (i := 951) (by decide +kernel), List.mem_of_getElem? (i := 952) (by decide +kernel)⟩
theorem lw_p22 : lw_okq (⟨"HillBoxes$Tape", "mayOpen", "(I)Z"⟩, 11) := ⟨⟨by decide +kernel, by decide +kernel⟩, List.mem_of_getElem? (i := 89) (by decide +kernel), List.mem_of_getElem? (i := 955) (by decide +kernel), List.mem_of_getElem? (i := 956) (by decide +kernel)⟩
theorem lw_p23 : lw_okq (⟨"HillBoxes$Tape", "blame", "()V"⟩, 11) := ⟨⟨by decide +kernel, by decide +kernel⟩, List.mem_of_getElem? (i := 89) (by decide +kernel), List.mem_of_getElem? (i := 959) (by decide +kernel), List.mem_of_getElem? (i := 960) (by decide +kernel)⟩
theorem lw_p24 : lw_okq (⟨"HillBoxes$Tape", "readSum", "(I)V"⟩, 11) := ⟨⟨by decide +kernel, by decide +kernel⟩, List.mem_of_getElem? (i := 89) (by decide +kernel), List.mem_of_getElem? (i := 963) (by decide +kernel), List.mem_of_getElem? (i := 964) (by decide +kernel)⟩
theorem lw_p25 : lw_okq (⟨"HillBoxes$Tape", "readProduct", "(I)V"⟩, 11) := ⟨⟨by decide +kernel, by decide +kernel⟩, List.mem_of_getElem? (i := 89) (by decide +kernel), List.mem_of_getElem? (i := 967) (by decide +kernel), List.mem_of_getElem? (i := 968) (by decide +kernel)⟩
theorem lw_p26 : lw_okq (⟨"HillBoxes$Tape", "readOne", "(I)V"⟩, 11) := ⟨⟨by decide +kernel, by decide +kernel⟩, List.mem_of_getElem? (i := 89) (by decide +kernel), List.mem_of_getElem? (i := 971) (by decide +kernel), List.mem_of_getElem? (i := 972) (by decide +kernel)⟩
theorem lw_p27 : lw_okq (⟨"HillBoxes$Tape", "emit", "(I)V"⟩, 11) := ⟨⟨by decide +kernel, by decide +kernel⟩, List.mem_of_getElem? (i := 89) (by decide +kernel), List.mem_of_getElem? (i := 975) (by decide +kernel), List.mem_of_getElem? (i := 976) (by decide +kernel)⟩
theorem lw_p28 : lw_okq (⟨"HillBoxes$Tape", "expect", "(I)V"⟩, 11) := ⟨⟨by decide +kernel, by decide +kernel⟩, List.mem_of_getElem? (i := 89) (by decide +kernel), List.mem_of_getElem? (i := 979) (by decide +kernel), List.mem_of_getElem? (i := 980) (by decide +kernel)⟩
theorem lw_p29 : lw_okq (⟨"HillBoxes", "canSay", "(III)Z"⟩, 6) := ⟨⟨by decide +kernel, by decide +kernel⟩, List.mem_of_getElem? (i := 23) (by decide +kernel), List.mem_of_getElem? (i := 1000) (by decide +kernel), List.mem_of_getElem? (i := 1001) (by decide +kernel)⟩
theorem lw_p30 : lw_okq (⟨"HillBoxes", "riddleOf", "(I)LHillBoxes$Riddle;"⟩, 6) := ⟨⟨by decide +kernel, by decide +kernel⟩, List.mem_of_getElem? (i := 23) (by decide +kernel), List.mem_of_getElem? (i := 1020) (by decide +kernel), List.mem_of_getElem? (i := 1021) (by decide +kernel)⟩
theorem lw_p31 : lw_okq (⟨"HillBoxes", "shelfAt", "(I)LHillBoxes$Shelf;"⟩, 6) := ⟨⟨by decide +kernel, by decide +kernel⟩, List.mem_of_getElem? (i := 23) (by decide +kernel), List.mem_of_getElem? (i := 1024) (by decide +kernel), List.mem_of_getElem? (i := 1025) (by decide +kernel)⟩
def lw_privs_2 : List (MethodName × Nat) := [(⟨"HillBoxes$Tape", "readNumber", "(I)V"⟩, 11), (⟨"HillBoxes$Tape", "readLine", "()V"⟩, 11), (⟨"HillBoxes$Tape", "advance", "()V"⟩, 11), (⟨"HillBoxes$Tape", "readEither", "(I)V"⟩, 11), (⟨"HillBoxes$Tape", "readBoth", "(I)V"⟩, 11), (⟨"HillBoxes$Tape", "readDenied", "(I)V"⟩, 11), (⟨"HillBoxes$Tape", "mayOpen", "(I)Z"⟩, 11), (⟨"HillBoxes$Tape", "blame", "()V"⟩, 11), (⟨"HillBoxes$Tape", "readSum", "(I)V"⟩, 11), (⟨"HillBoxes$Tape", "readProduct", "(I)V"⟩, 11), (⟨"HillBoxes$Tape", "readOne", "(I)V"⟩, 11), (⟨"HillBoxes$Tape", "emit", "(I)V"⟩, 11), (⟨"HillBoxes$Tape", "expect", "(I)V"⟩, 11), (⟨"HillBoxes", "canSay", "(III)Z"⟩, 6), (⟨"HillBoxes", "riddleOf", "(I)LHillBoxes$Riddle;"⟩, 6), (⟨"HillBoxes", "shelfAt", "(I)LHillBoxes$Shelf;"⟩, 6)]
theorem lw_r2 : ∀ q ∈ lw_privs_2, lw_okq q := List.forall_mem_cons.mpr ⟨lw_p16, List.forall_mem_cons.mpr ⟨lw_p17, List.forall_mem_cons.mpr ⟨lw_p18, List.forall_mem_cons.mpr ⟨lw_p19, List.forall_mem_cons.mpr ⟨lw_p20, List.forall_mem_cons.mpr ⟨lw_p21, List.forall_mem_cons.mpr ⟨lw_p22, List.forall_mem_cons.mpr ⟨lw_p23, List.forall_mem_cons.mpr ⟨lw_p24, List.forall_mem_cons.mpr ⟨lw_p25, List.forall_mem_cons.mpr ⟨lw_p26, List.forall_mem_cons.mpr ⟨lw_p27, List.forall_mem_cons.mpr ⟨lw_p28, List.forall_mem_cons.mpr ⟨lw_p29, List.forall_mem_cons.mpr ⟨lw_p30, List.forall_mem_cons.mpr ⟨lw_p31, fun _ h => absurd h List.not_mem_nil⟩⟩⟩⟩⟩⟩⟩⟩⟩⟩⟩⟩⟩⟩⟩⟩
theorem lw_p32 : lw_okq (⟨"HillBoxes$Riddle", "takeFive", "(LHillBoxes$Shelf;J)Z"⟩, 15) := ⟨⟨by decide +kernel, by decide +kernel⟩, List.mem_of_getElem? (i := 565) (by decide +kernel), List.mem_of_getElem? (i := 1041) (by decide +kernel), List.mem_of_getElem? (i := 1042) (by decide +kernel)⟩
theorem lw_p33 : lw_okq (⟨"HillBoxes$Riddle", "lookFor", "(I)V"⟩, 15) := ⟨⟨by decide +kernel, by decide +kernel⟩, List.mem_of_getElem? (i := 565) (by decide +kernel), List.mem_of_getElem? (i := 1079) (by decide +kernel), List.mem_of_getElem? (i := 1080) (by decide +kernel)⟩
theorem lw_p34 : lw_okq (⟨"HillBoxes$Riddle", "search", "(III)V"⟩, 15) := ⟨⟨by decide +kernel, by decide +kernel⟩, List.mem_of_getElem? (i := 565) (by decide +kernel), List.mem_of_getElem? (i := 1084) (by decide +kernel), List.mem_of_getElem? (i := 1085) (by decide +kernel)⟩
theorem lw_p35 : lw_okq (⟨"HillBoxes$Riddle", "tryDigits", "(III)V"⟩, 15) := ⟨⟨by decide +kernel, by decide +kernel⟩, List.mem_of_getElem? (i := 565) (by decide +kernel), List.mem_of_getElem? (i := 1088) (by decide +kernel), List.mem_of_getElem? (i := 1089) (by decide +kernel)⟩
theorem lw_p36 : lw_okq (⟨"HillBoxes$Riddle", "allHoldAt", "(I)Z"⟩, 15) := ⟨⟨by decide +kernel, by decide +kernel⟩, List.mem_of_getElem? (i := 565) (by decide +kernel), List.mem_of_getElem? (i := 1092) (by decide +kernel), List.mem_of_getElem? (i := 1093) (by decide +kernel)⟩
theorem lw_p37 : lw_okq (⟨"HillBoxes$Riddle", "holds", "(I)Z"⟩, 15) := ⟨⟨by decide +kernel, by decide +kernel⟩, List.mem_of_getElem? (i := 565) (by decide +kernel), List.mem_of_getElem? (i := 1096) (by decide +kernel), List.mem_of_getElem? (i := 1097) (by decide +kernel)⟩
theorem lw_p38 : lw_okq (⟨"HillBoxes$Riddle", "digitOf", "(I)I"⟩, 15) := ⟨⟨by decide +kernel, by decide +kernel⟩, List.mem_of_getElem? (i := 565) (by decide +kernel), List.mem_of_getElem? (i := 1100) (by decide +kernel), List.mem_of_getElem? (i := 1101) (by decide +kernel)⟩
theorem lw_p39 : lw_okq (⟨"HillBoxes$Riddle", "coordinate", "(I)I"⟩, 15) := ⟨⟨by decide +kernel, by decide +kernel⟩, List.mem_of_getElem? (i := 565) (by decide +kernel), List.mem_of_getElem? (i := 1104) (by decide +kernel), List.mem_of_getElem? (i := 1105) (by decide +kernel)⟩
theorem lw_p40 : lw_okq (⟨"HillBoxes$Riddle", "meet", "(I)V"⟩, 15) := ⟨⟨by decide +kernel, by decide +kernel⟩, List.mem_of_getElem? (i := 565) (by decide +kernel), List.mem_of_getElem? (i := 1111) (by decide +kernel), List.mem_of_getElem? (i := 1112) (by decide +kernel)⟩
theorem lw_p41 : lw_okq (⟨"HillBoxes$Logs", "recount", "(LHillBoxes$Box;)V"⟩, 9) := ⟨⟨by decide +kernel, by decide +kernel⟩, List.mem_of_getElem? (i := 183) (by decide +kernel), List.mem_of_getElem? (i := 1139) (by decide +kernel), List.mem_of_getElem? (i := 1140) (by decide +kernel)⟩
theorem lw_p42 : lw_okq (⟨"HillBoxes$Logs", "isBehind", "(II)Z"⟩, 9) := ⟨⟨by decide +kernel, by decide +kernel⟩, List.mem_of_getElem? (i := 183) (by decide +kernel), List.mem_of_getElem? (i := 1143) (by decide +kernel), List.mem_of_getElem? (i := 1144) (by decide +kernel)⟩
theorem lw_p43 : lw_okq (⟨"HillBoxes$Logs", "isMissBehindFound", "(ILHillBoxes$Box;)Z"⟩, 9) := ⟨⟨by decide +kernel, by decide +kernel⟩, List.mem_of_getElem? (i := 183) (by decide +kernel), List.mem_of_getElem? (i := 1147) (by decide +kernel), List.mem_of_getElem? (i := 1148) (by decide +kernel)⟩
theorem lw_p44 : lw_okq (⟨"HillBoxes$Logs", "placeOfBox", "(I)I"⟩, 9) := ⟨⟨by decide +kernel, by decide +kernel⟩, List.mem_of_getElem? (i := 183) (by decide +kernel), List.mem_of_getElem? (i := 1190) (by decide +kernel), List.mem_of_getElem? (i := 1191) (by decide +kernel)⟩
theorem lw_p45 : lw_okq (⟨"HillBoxes$Logs", "isBetweenMisses", "(I)Z"⟩, 9) := ⟨⟨by decide +kernel, by decide +kernel⟩, List.mem_of_getElem? (i := 183) (by decide +kernel), List.mem_of_getElem? (i := 1207) (by decide +kernel), List.mem_of_getElem? (i := 1208) (by decide +kernel)⟩
theorem lw_p46 : lw_okq (⟨"HillBoxes$Logs", "hasAnotherFound", "(I)Z"⟩, 9) := ⟨⟨by decide +kernel, by decide +kernel⟩, List.mem_of_getElem? (i := 183) (by decide +kernel), List.mem_of_getElem? (i := 1232) (by decide +kernel), List.mem_of_getElem? (i := 1233) (by decide +kernel)⟩
theorem lw_p47 : lw_okq (⟨"HillBoxes", "takerOf", "(LHillBoxes$Box;)I"⟩, 6) := ⟨⟨by decide +kernel, by decide +kernel⟩, List.mem_of_getElem? (i := 23) (by decide +kernel), List.mem_of_getElem? (i := 1276) (by decide +kernel), List.mem_of_getElem? (i := 1277) (by decide +kernel)⟩
def lw_privs_3 : List (MethodName × Nat) := [(⟨"HillBoxes$Riddle", "takeFive", "(LHillBoxes$Shelf;J)Z"⟩, 15), (⟨"HillBoxes$Riddle", "lookFor", "(I)V"⟩, 15), (⟨"HillBoxes$Riddle", "search", "(III)V"⟩, 15), (⟨"HillBoxes$Riddle", "tryDigits", "(III)V"⟩, 15), (⟨"HillBoxes$Riddle", "allHoldAt", "(I)Z"⟩, 15), (⟨"HillBoxes$Riddle", "holds", "(I)Z"⟩, 15), (⟨"HillBoxes$Riddle", "digitOf", "(I)I"⟩, 15), (⟨"HillBoxes$Riddle", "coordinate", "(I)I"⟩, 15), (⟨"HillBoxes$Riddle", "meet", "(I)V"⟩, 15), (⟨"HillBoxes$Logs", "recount", "(LHillBoxes$Box;)V"⟩, 9), (⟨"HillBoxes$Logs", "isBehind", "(II)Z"⟩, 9), (⟨"HillBoxes$Logs", "isMissBehindFound", "(ILHillBoxes$Box;)Z"⟩, 9), (⟨"HillBoxes$Logs", "placeOfBox", "(I)I"⟩, 9), (⟨"HillBoxes$Logs", "isBetweenMisses", "(I)Z"⟩, 9), (⟨"HillBoxes$Logs", "hasAnotherFound", "(I)Z"⟩, 9), (⟨"HillBoxes", "takerOf", "(LHillBoxes$Box;)I"⟩, 6)]
theorem lw_r3 : ∀ q ∈ lw_privs_3, lw_okq q := List.forall_mem_cons.mpr ⟨lw_p32, List.forall_mem_cons.mpr ⟨lw_p33, List.forall_mem_cons.mpr ⟨lw_p34, List.forall_mem_cons.mpr ⟨lw_p35, List.forall_mem_cons.mpr ⟨lw_p36, List.forall_mem_cons.mpr ⟨lw_p37, List.forall_mem_cons.mpr ⟨lw_p38, List.forall_mem_cons.mpr ⟨lw_p39, List.forall_mem_cons.mpr ⟨lw_p40, List.forall_mem_cons.mpr ⟨lw_p41, List.forall_mem_cons.mpr ⟨lw_p42, List.forall_mem_cons.mpr ⟨lw_p43, List.forall_mem_cons.mpr ⟨lw_p44, List.forall_mem_cons.mpr ⟨lw_p45, List.forall_mem_cons.mpr ⟨lw_p46, List.forall_mem_cons.mpr ⟨lw_p47, fun _ h => absurd h List.not_mem_nil⟩⟩⟩⟩⟩⟩⟩⟩⟩⟩⟩⟩⟩⟩⟩⟩
theorem lw_p48 : lw_okq (⟨"HillBoxes", "isToPut", "(LHillBoxes$Box;)Z"⟩, 6) := ⟨⟨by decide +kernel, by decide +kernel⟩, List.mem_of_getElem? (i := 23) (by decide +kernel), List.mem_of_getElem? (i := 1289) (by decide +kernel), List.mem_of_getElem? (i := 1290) (by decide +kernel)⟩
theorem lw_p49 : lw_okq (⟨"HillBoxes$Walks", "setOut", "(I)V"⟩, 16) := ⟨⟨by decide +kernel, by decide +kernel⟩, List.mem_of_getElem? (i := 222) (by decide +kernel), List.mem_of_getElem? (i := 1324) (by decide +kernel), List.mem_of_getElem? (i := 1325) (by decide +kernel)⟩
theorem lw_p50 : lw_okq (⟨"HillBoxes$Walks", "extend", "(IIIII)V"⟩, 16) := ⟨⟨by decide +kernel, by decide +kernel⟩, List.mem_of_getElem? (i := 222) (by decide +kernel), List.mem_of_getElem? (i := 1328) (by decide +kernel), List.mem_of_getElem? (i := 1329) (by decide +kernel)⟩
theorem lw_p51 : lw_okq (⟨"HillBoxes$Walks", "timeBehind", "(III)I"⟩, 16) := ⟨⟨by decide +kernel, by decide +kernel⟩, List.mem_of_getElem? (i := 222) (by decide +kernel), List.mem_of_getElem? (i := 1332) (by decide +kernel), List.mem_of_getElem? (i := 1333) (by decide +kernel)⟩
theorem lw_p52 : lw_okq (⟨"HillBoxes$Walks", "cellOf", "(I)I"⟩, 16) := ⟨⟨by decide +kernel, by decide +kernel⟩, List.mem_of_getElem? (i := 222) (by decide +kernel), List.mem_of_getElem? (i := 1336) (by decide +kernel), List.mem_of_getElem? (i := 1337) (by decide +kernel)⟩
theorem lw_p53 : lw_okq (⟨"HillBoxes$Walks", "goOnBehind", "(IIII)V"⟩, 16) := ⟨⟨by decide +kernel, by decide +kernel⟩, List.mem_of_getElem? (i := 222) (by decide +kernel), List.mem_of_getElem? (i := 1343) (by decide +kernel), List.mem_of_getElem? (i := 1344) (by decide +kernel)⟩
theorem lw_p54 : lw_okq (⟨"HillBoxes$Walks", "compare", "(III)V"⟩, 16) := ⟨⟨by decide +kernel, by decide +kernel⟩, List.mem_of_getElem? (i := 222) (by decide +kernel), List.mem_of_getElem? (i := 1347) (by decide +kernel), List.mem_of_getElem? (i := 1348) (by decide +kernel)⟩
theorem lw_p55 : lw_okq (⟨"HillBoxes$Logs", "isTalliedAhead", "(I)Z"⟩, 9) := ⟨⟨by decide +kernel, by decide +kernel⟩, List.mem_of_getElem? (i := 183) (by decide +kernel), List.mem_of_getElem? (i := 1407) (by decide +kernel), List.mem_of_getElem? (i := 1408) (by decide +kernel)⟩
theorem lw_p56 : lw_okq (⟨"HillBoxes$Body", "run", "(III[II)I"⟩, 2) := ⟨⟨by decide +kernel, by decide +kernel⟩, List.mem_of_getElem? (i := 395) (by decide +kernel), List.mem_of_getElem? (i := 1427) (by decide +kernel), List.mem_of_getElem? (i := 1428) (by decide +kernel)⟩
theorem lw_p57 : lw_okq (⟨"HillBoxes$Body", "runBody", "(III[II)I"⟩, 2) := ⟨⟨by decide +kernel, by decide +kernel⟩, List.mem_of_getElem? (i := 395) (by decide +kernel), List.mem_of_getElem? (i := 1435) (by decide +kernel), List.mem_of_getElem? (i := 1436) (by decide +kernel)⟩
theorem lw_p58 : lw_okq (⟨"HillBoxes$Shelf", "narrowed", "(J)J"⟩, 5) := ⟨⟨by decide +kernel, by decide +kernel⟩, List.mem_of_getElem? (i := 284) (by decide +kernel), List.mem_of_getElem? (i := 1485) (by decide +kernel), List.mem_of_getElem? (i := 1486) (by decide +kernel)⟩
theorem lw_p59 : lw_okq (⟨"HillBoxes", "countBoxes", "(Z)I"⟩, 6) := ⟨⟨by decide +kernel, by decide +kernel⟩, List.mem_of_getElem? (i := 23) (by decide +kernel), List.mem_of_getElem? (i := 1515) (by decide +kernel), List.mem_of_getElem? (i := 1516) (by decide +kernel)⟩
theorem lw_p60 : lw_okq (⟨"HillBoxes", "countFinders", "(Z)I"⟩, 6) := ⟨⟨by decide +kernel, by decide +kernel⟩, List.mem_of_getElem? (i := 23) (by decide +kernel), List.mem_of_getElem? (i := 1519) (by decide +kernel), List.mem_of_getElem? (i := 1520) (by decide +kernel)⟩
theorem lw_p61 : lw_okq (⟨"HillBoxesModel", "ownerOf", "(I)I"⟩, 90) := ⟨⟨by decide +kernel, by decide +kernel⟩, List.mem_of_getElem? (i := 1523) (by decide +kernel), List.mem_of_getElem? (i := 1815) (by decide +kernel), List.mem_of_getElem? (i := 1816) (by decide +kernel)⟩
theorem lw_p62 : lw_okq (⟨"HillBoxesModel", "add", "(I)I"⟩, 90) := ⟨⟨by decide +kernel, by decide +kernel⟩, List.mem_of_getElem? (i := 1523) (by decide +kernel), List.mem_of_getElem? (i := 1823) (by decide +kernel), List.mem_of_getElem? (i := 1824) (by decide +kernel)⟩
theorem lw_p63 : lw_okq (⟨"HillBoxesModel", "isFinder", "(I)Z"⟩, 90) := ⟨⟨by decide +kernel, by decide +kernel⟩, List.mem_of_getElem? (i := 1523) (by decide +kernel), List.mem_of_getElem? (i := 1835) (by decide +kernel), List.mem_of_getElem? (i := 1836) (by decide +kernel)⟩
def lw_privs_4 : List (MethodName × Nat) := [(⟨"HillBoxes", "isToPut", "(LHillBoxes$Box;)Z"⟩, 6), (⟨"HillBoxes$Walks", "setOut", "(I)V"⟩, 16), (⟨"HillBoxes$Walks", "extend", "(IIIII)V"⟩, 16), (⟨"HillBoxes$Walks", "timeBehind", "(III)I"⟩, 16), (⟨"HillBoxes$Walks", "cellOf", "(I)I"⟩, 16), (⟨"HillBoxes$Walks", "goOnBehind", "(IIII)V"⟩, 16), (⟨"HillBoxes$Walks", "compare", "(III)V"⟩, 16), (⟨"HillBoxes$Logs", "isTalliedAhead", "(I)Z"⟩, 9), (⟨"HillBoxes$Body", "run", "(III[II)I"⟩, 2), (⟨"HillBoxes$Body", "runBody", "(III[II)I"⟩, 2), (⟨"HillBoxes$Shelf", "narrowed", "(J)J"⟩, 5), (⟨"HillBoxes", "countBoxes", "(Z)I"⟩, 6), (⟨"HillBoxes", "countFinders", "(Z)I"⟩, 6), (⟨"HillBoxesModel", "ownerOf", "(I)I"⟩, 90), (⟨"HillBoxesModel", "add", "(I)I"⟩, 90), (⟨"HillBoxesModel", "isFinder", "(I)Z"⟩, 90)]
theorem lw_r4 : ∀ q ∈ lw_privs_4, lw_okq q := List.forall_mem_cons.mpr ⟨lw_p48, List.forall_mem_cons.mpr ⟨lw_p49, List.forall_mem_cons.mpr ⟨lw_p50, List.forall_mem_cons.mpr ⟨lw_p51, List.forall_mem_cons.mpr ⟨lw_p52, List.forall_mem_cons.mpr ⟨lw_p53, List.forall_mem_cons.mpr ⟨lw_p54, List.forall_mem_cons.mpr ⟨lw_p55, List.forall_mem_cons.mpr ⟨lw_p56, List.forall_mem_cons.mpr ⟨lw_p57, List.forall_mem_cons.mpr ⟨lw_p58, List.forall_mem_cons.mpr ⟨lw_p59, List.forall_mem_cons.mpr ⟨lw_p60, List.forall_mem_cons.mpr ⟨lw_p61, List.forall_mem_cons.mpr ⟨lw_p62, List.forall_mem_cons.mpr ⟨lw_p63, fun _ h => absurd h List.not_mem_nil⟩⟩⟩⟩⟩⟩⟩⟩⟩⟩⟩⟩⟩⟩⟩⟩
theorem lw_p64 : lw_okq (⟨"HillBoxesModel", "isBody", "(I)Z"⟩, 90) := ⟨⟨by decide +kernel, by decide +kernel⟩, List.mem_of_getElem? (i := 1523) (by decide +kernel), List.mem_of_getElem? (i := 1839) (by decide +kernel), List.mem_of_getElem? (i := 1840) (by decide +kernel)⟩
theorem lw_p65 : lw_okq (⟨"HillBoxesModel", "isBox", "(I)Z"⟩, 90) := ⟨⟨by decide +kernel, by decide +kernel⟩, List.mem_of_getElem? (i := 1523) (by decide +kernel), List.mem_of_getElem? (i := 1851) (by decide +kernel), List.mem_of_getElem? (i := 1852) (by decide +kernel)⟩
theorem lw_p66 : lw_okq (⟨"HillBoxesModel", "liesAtMoment", "(II)I"⟩, 90) := ⟨⟨by decide +kernel, by decide +kernel⟩, List.mem_of_getElem? (i := 1523) (by decide +kernel), List.mem_of_getElem? (i := 1861) (by decide +kernel), List.mem_of_getElem? (i := 1862) (by decide +kernel)⟩
theorem lw_p67 : lw_okq (⟨"HillBoxesModel", "liesNow", "(I)I"⟩, 90) := ⟨⟨by decide +kernel, by decide +kernel⟩, List.mem_of_getElem? (i := 1523) (by decide +kernel), List.mem_of_getElem? (i := 1865) (by decide +kernel), List.mem_of_getElem? (i := 1866) (by decide +kernel)⟩
theorem lw_p68 : lw_okq (⟨"HillBoxesModel", "cellNow", "(I)I"⟩, 90) := ⟨⟨by decide +kernel, by decide +kernel⟩, List.mem_of_getElem? (i := 1523) (by decide +kernel), List.mem_of_getElem? (i := 1869) (by decide +kernel), List.mem_of_getElem? (i := 1870) (by decide +kernel)⟩
theorem lw_p69 : lw_okq (⟨"HillBoxesModel", "ownOf", "(I)I"⟩, 90) := ⟨⟨by decide +kernel, by decide +kernel⟩, List.mem_of_getElem? (i := 1523) (by decide +kernel), List.mem_of_getElem? (i := 1885) (by decide +kernel), List.mem_of_getElem? (i := 1886) (by decide +kernel)⟩
theorem lw_p70 : lw_okq (⟨"HillBoxesModel", "isOut", "(I)Z"⟩, 90) := ⟨⟨by decide +kernel, by decide +kernel⟩, List.mem_of_getElem? (i := 1523) (by decide +kernel), List.mem_of_getElem? (i := 1889) (by decide +kernel), List.mem_of_getElem? (i := 1890) (by decide +kernel)⟩
theorem lw_p71 : lw_okq (⟨"HillBoxesModel", "whereOf", "(II)I"⟩, 90) := ⟨⟨by decide +kernel, by decide +kernel⟩, List.mem_of_getElem? (i := 1523) (by decide +kernel), List.mem_of_getElem? (i := 1893) (by decide +kernel), List.mem_of_getElem? (i := 1894) (by decide +kernel)⟩
theorem lw_p72 : lw_okq (⟨"HillBoxesModel", "findsOf", "(I)I"⟩, 90) := ⟨⟨by decide +kernel, by decide +kernel⟩, List.mem_of_getElem? (i := 1523) (by decide +kernel), List.mem_of_getElem? (i := 1897) (by decide +kernel), List.mem_of_getElem? (i := 1898) (by decide +kernel)⟩
theorem lw_p73 : lw_okq (⟨"HillBoxesModel", "missesOf", "(I)I"⟩, 90) := ⟨⟨by decide +kernel, by decide +kernel⟩, List.mem_of_getElem? (i := 1523) (by decide +kernel), List.mem_of_getElem? (i := 1901) (by decide +kernel), List.mem_of_getElem? (i := 1902) (by decide +kernel)⟩
theorem lw_p74 : lw_okq (⟨"HillBoxesModel", "latestFound", "(I)I"⟩, 90) := ⟨⟨by decide +kernel, by decide +kernel⟩, List.mem_of_getElem? (i := 1523) (by decide +kernel), List.mem_of_getElem? (i := 1905) (by decide +kernel), List.mem_of_getElem? (i := 1906) (by decide +kernel)⟩
theorem lw_p75 : lw_okq (⟨"HillBoxesModel", "isBehind", "(II)Z"⟩, 90) := ⟨⟨by decide +kernel, by decide +kernel⟩, List.mem_of_getElem? (i := 1523) (by decide +kernel), List.mem_of_getElem? (i := 1909) (by decide +kernel), List.mem_of_getElem? (i := 1910) (by decide +kernel)⟩
theorem lw_p76 : lw_okq (⟨"HillBoxesModel", "isJoined", "(III)Z"⟩, 90) := ⟨⟨by decide +kernel, by decide +kernel⟩, List.mem_of_getElem? (i := 1523) (by decide +kernel), List.mem_of_getElem? (i := 1928) (by decide +kernel), List.mem_of_getElem? (i := 1929) (by decide +kernel)⟩
theorem lw_p77 : lw_okq (⟨"HillBoxesModel", "hasFound", "(II)Z"⟩, 90) := ⟨⟨by decide +kernel, by decide +kernel⟩, List.mem_of_getElem? (i := 1523) (by decide +kernel), List.mem_of_getElem? (i := 1932) (by decide +kernel), List.mem_of_getElem? (i := 1933) (by decide +kernel)⟩
theorem lw_p78 : lw_okq (⟨"HillBoxesModel", "isOnPaper", "(II)Z"⟩, 90) := ⟨⟨by decide +kernel, by decide +kernel⟩, List.mem_of_getElem? (i := 1523) (by decide +kernel), List.mem_of_getElem? (i := 1936) (by decide +kernel), List.mem_of_getElem? (i := 1937) (by decide +kernel)⟩
theorem lw_p79 : lw_okq (⟨"HillBoxesModel", "logCounts", "(II)Z"⟩, 90) := ⟨⟨by decide +kernel, by decide +kernel⟩, List.mem_of_getElem? (i := 1523) (by decide +kernel), List.mem_of_getElem? (i := 1944) (by decide +kernel), List.mem_of_getElem? (i := 1945) (by decide +kernel)⟩
def lw_privs_5 : List (MethodName × Nat) := [(⟨"HillBoxesModel", "isBody", "(I)Z"⟩, 90), (⟨"HillBoxesModel", "isBox", "(I)Z"⟩, 90), (⟨"HillBoxesModel", "liesAtMoment", "(II)I"⟩, 90), (⟨"HillBoxesModel", "liesNow", "(I)I"⟩, 90), (⟨"HillBoxesModel", "cellNow", "(I)I"⟩, 90), (⟨"HillBoxesModel", "ownOf", "(I)I"⟩, 90), (⟨"HillBoxesModel", "isOut", "(I)Z"⟩, 90), (⟨"HillBoxesModel", "whereOf", "(II)I"⟩, 90), (⟨"HillBoxesModel", "findsOf", "(I)I"⟩, 90), (⟨"HillBoxesModel", "missesOf", "(I)I"⟩, 90), (⟨"HillBoxesModel", "latestFound", "(I)I"⟩, 90), (⟨"HillBoxesModel", "isBehind", "(II)Z"⟩, 90), (⟨"HillBoxesModel", "isJoined", "(III)Z"⟩, 90), (⟨"HillBoxesModel", "hasFound", "(II)Z"⟩, 90), (⟨"HillBoxesModel", "isOnPaper", "(II)Z"⟩, 90), (⟨"HillBoxesModel", "logCounts", "(II)Z"⟩, 90)]
theorem lw_r5 : ∀ q ∈ lw_privs_5, lw_okq q := List.forall_mem_cons.mpr ⟨lw_p64, List.forall_mem_cons.mpr ⟨lw_p65, List.forall_mem_cons.mpr ⟨lw_p66, List.forall_mem_cons.mpr ⟨lw_p67, List.forall_mem_cons.mpr ⟨lw_p68, List.forall_mem_cons.mpr ⟨lw_p69, List.forall_mem_cons.mpr ⟨lw_p70, List.forall_mem_cons.mpr ⟨lw_p71, List.forall_mem_cons.mpr ⟨lw_p72, List.forall_mem_cons.mpr ⟨lw_p73, List.forall_mem_cons.mpr ⟨lw_p74, List.forall_mem_cons.mpr ⟨lw_p75, List.forall_mem_cons.mpr ⟨lw_p76, List.forall_mem_cons.mpr ⟨lw_p77, List.forall_mem_cons.mpr ⟨lw_p78, List.forall_mem_cons.mpr ⟨lw_p79, fun _ h => absurd h List.not_mem_nil⟩⟩⟩⟩⟩⟩⟩⟩⟩⟩⟩⟩⟩⟩⟩⟩
theorem lw_p80 : lw_okq (⟨"HillBoxesModel", "findFinder", "(II)V"⟩, 90) := ⟨⟨by decide +kernel, by decide +kernel⟩, List.mem_of_getElem? (i := 1523) (by decide +kernel), List.mem_of_getElem? (i := 1948) (by decide +kernel), List.mem_of_getElem? (i := 1949) (by decide +kernel)⟩
theorem lw_p81 : lw_okq (⟨"HillBoxesModel", "findDay", "(I)V"⟩, 90) := ⟨⟨by decide +kernel, by decide +kernel⟩, List.mem_of_getElem? (i := 1523) (by decide +kernel), List.mem_of_getElem? (i := 1952) (by decide +kernel), List.mem_of_getElem? (i := 1953) (by decide +kernel)⟩
theorem lw_p82 : lw_okq (⟨"HillBoxesModel", "findBox", "(II)V"⟩, 90) := ⟨⟨by decide +kernel, by decide +kernel⟩, List.mem_of_getElem? (i := 1523) (by decide +kernel), List.mem_of_getElem? (i := 1956) (by decide +kernel), List.mem_of_getElem? (i := 1957) (by decide +kernel)⟩
theorem lw_p83 : lw_okq (⟨"HillBoxesModel", "bothOf", "(II)V"⟩, 90) := ⟨⟨by decide +kernel, by decide +kernel⟩, List.mem_of_getElem? (i := 1523) (by decide +kernel), List.mem_of_getElem? (i := 1960) (by decide +kernel), List.mem_of_getElem? (i := 1961) (by decide +kernel)⟩
theorem lw_p84 : lw_okq (⟨"HillBoxesModel", "lineGives", "(I)I"⟩, 90) := ⟨⟨by decide +kernel, by decide +kernel⟩, List.mem_of_getElem? (i := 1523) (by decide +kernel), List.mem_of_getElem? (i := 1970) (by decide +kernel), List.mem_of_getElem? (i := 1971) (by decide +kernel)⟩
theorem lw_p85 : lw_okq (⟨"HillBoxesModel", "worked", "(III)I"⟩, 90) := ⟨⟨by decide +kernel, by decide +kernel⟩, List.mem_of_getElem? (i := 1523) (by decide +kernel), List.mem_of_getElem? (i := 1974) (by decide +kernel), List.mem_of_getElem? (i := 1975) (by decide +kernel)⟩
theorem lw_p86 : lw_okq (⟨"HillBoxesModel", "lawBy", "(IIII)I"⟩, 90) := ⟨⟨by decide +kernel, by decide +kernel⟩, List.mem_of_getElem? (i := 1523) (by decide +kernel), List.mem_of_getElem? (i := 1981) (by decide +kernel), List.mem_of_getElem? (i := 1982) (by decide +kernel)⟩
theorem lw_p87 : lw_okq (⟨"HillBoxesModel", "forceOf", "(III)I"⟩, 90) := ⟨⟨by decide +kernel, by decide +kernel⟩, List.mem_of_getElem? (i := 1523) (by decide +kernel), List.mem_of_getElem? (i := 1985) (by decide +kernel), List.mem_of_getElem? (i := 1986) (by decide +kernel)⟩
theorem lw_p88 : lw_okq (⟨"HillBoxesModel", "isLog", "(I)Z"⟩, 90) := ⟨⟨by decide +kernel, by decide +kernel⟩, List.mem_of_getElem? (i := 1523) (by decide +kernel), List.mem_of_getElem? (i := 1993) (by decide +kernel), List.mem_of_getElem? (i := 1994) (by decide +kernel)⟩
theorem lw_p89 : lw_okq (⟨"HillBoxesModel", "falseOf", "(I)I"⟩, 90) := ⟨⟨by decide +kernel, by decide +kernel⟩, List.mem_of_getElem? (i := 1523) (by decide +kernel), List.mem_of_getElem? (i := 1997) (by decide +kernel), List.mem_of_getElem? (i := 1998) (by decide +kernel)⟩
theorem lw_p90 : lw_okq (⟨"HillBoxesModel", "clash", "(I)I"⟩, 90) := ⟨⟨by decide +kernel, by decide +kernel⟩, List.mem_of_getElem? (i := 1523) (by decide +kernel), List.mem_of_getElem? (i := 2001) (by decide +kernel), List.mem_of_getElem? (i := 2002) (by decide +kernel)⟩
theorem lw_p91 : lw_okq (⟨"HillBoxesModel", "nextLog", "(IZ)I"⟩, 90) := ⟨⟨by decide +kernel, by decide +kernel⟩, List.mem_of_getElem? (i := 1523) (by decide +kernel), List.mem_of_getElem? (i := 2005) (by decide +kernel), List.mem_of_getElem? (i := 2006) (by decide +kernel)⟩
theorem lw_p92 : lw_okq (⟨"HillBoxesModel", "foundBy", "(I)I"⟩, 90) := ⟨⟨by decide +kernel, by decide +kernel⟩, List.mem_of_getElem? (i := 1523) (by decide +kernel), List.mem_of_getElem? (i := 2017) (by decide +kernel), List.mem_of_getElem? (i := 2018) (by decide +kernel)⟩
theorem lw_p93 : lw_okq (⟨"HillBoxesModel", "nextToken", "()V"⟩, 90) := ⟨⟨by decide +kernel, by decide +kernel⟩, List.mem_of_getElem? (i := 1523) (by decide +kernel), List.mem_of_getElem? (i := 2032) (by decide +kernel), List.mem_of_getElem? (i := 2033) (by decide +kernel)⟩
theorem lw_p94 : lw_okq (⟨"HillBoxesModel", "line", "()V"⟩, 90) := ⟨⟨by decide +kernel, by decide +kernel⟩, List.mem_of_getElem? (i := 1523) (by decide +kernel), List.mem_of_getElem? (i := 2045) (by decide +kernel), List.mem_of_getElem? (i := 2046) (by decide +kernel)⟩
theorem lw_p95 : lw_okq (⟨"HillBoxesModel", "isWord", "(J)Z"⟩, 90) := ⟨⟨by decide +kernel, by decide +kernel⟩, List.mem_of_getElem? (i := 1523) (by decide +kernel), List.mem_of_getElem? (i := 2050) (by decide +kernel), List.mem_of_getElem? (i := 2051) (by decide +kernel)⟩
def lw_privs_6 : List (MethodName × Nat) := [(⟨"HillBoxesModel", "findFinder", "(II)V"⟩, 90), (⟨"HillBoxesModel", "findDay", "(I)V"⟩, 90), (⟨"HillBoxesModel", "findBox", "(II)V"⟩, 90), (⟨"HillBoxesModel", "bothOf", "(II)V"⟩, 90), (⟨"HillBoxesModel", "lineGives", "(I)I"⟩, 90), (⟨"HillBoxesModel", "worked", "(III)I"⟩, 90), (⟨"HillBoxesModel", "lawBy", "(IIII)I"⟩, 90), (⟨"HillBoxesModel", "forceOf", "(III)I"⟩, 90), (⟨"HillBoxesModel", "isLog", "(I)Z"⟩, 90), (⟨"HillBoxesModel", "falseOf", "(I)I"⟩, 90), (⟨"HillBoxesModel", "clash", "(I)I"⟩, 90), (⟨"HillBoxesModel", "nextLog", "(IZ)I"⟩, 90), (⟨"HillBoxesModel", "foundBy", "(I)I"⟩, 90), (⟨"HillBoxesModel", "nextToken", "()V"⟩, 90), (⟨"HillBoxesModel", "line", "()V"⟩, 90), (⟨"HillBoxesModel", "isWord", "(J)Z"⟩, 90)]
theorem lw_r6 : ∀ q ∈ lw_privs_6, lw_okq q := List.forall_mem_cons.mpr ⟨lw_p80, List.forall_mem_cons.mpr ⟨lw_p81, List.forall_mem_cons.mpr ⟨lw_p82, List.forall_mem_cons.mpr ⟨lw_p83, List.forall_mem_cons.mpr ⟨lw_p84, List.forall_mem_cons.mpr ⟨lw_p85, List.forall_mem_cons.mpr ⟨lw_p86, List.forall_mem_cons.mpr ⟨lw_p87, List.forall_mem_cons.mpr ⟨lw_p88, List.forall_mem_cons.mpr ⟨lw_p89, List.forall_mem_cons.mpr ⟨lw_p90, List.forall_mem_cons.mpr ⟨lw_p91, List.forall_mem_cons.mpr ⟨lw_p92, List.forall_mem_cons.mpr ⟨lw_p93, List.forall_mem_cons.mpr ⟨lw_p94, List.forall_mem_cons.mpr ⟨lw_p95, fun _ h => absurd h List.not_mem_nil⟩⟩⟩⟩⟩⟩⟩⟩⟩⟩⟩⟩⟩⟩⟩⟩
theorem lw_p96 : lw_okq (⟨"HillBoxesModel", "either", "()V"⟩, 90) := ⟨⟨by decide +kernel, by decide +kernel⟩, List.mem_of_getElem? (i := 1523) (by decide +kernel), List.mem_of_getElem? (i := 2057) (by decide +kernel), List.mem_of_getElem? (i := 2058) (by decide +kernel)⟩
theorem lw_p97 : lw_okq (⟨"HillBoxesModel", "both", "()V"⟩, 90) := ⟨⟨by decide +kernel, by decide +kernel⟩, List.mem_of_getElem? (i := 1523) (by decide +kernel), List.mem_of_getElem? (i := 2061) (by decide +kernel), List.mem_of_getElem? (i := 2062) (by decide +kernel)⟩
theorem lw_p98 : lw_okq (⟨"HillBoxesModel", "compared", "()V"⟩, 90) := ⟨⟨by decide +kernel, by decide +kernel⟩, List.mem_of_getElem? (i := 1523) (by decide +kernel), List.mem_of_getElem? (i := 2065) (by decide +kernel), List.mem_of_getElem? (i := 2066) (by decide +kernel)⟩
theorem lw_p99 : lw_okq (⟨"HillBoxesModel", "opens", "()Z"⟩, 90) := ⟨⟨by decide +kernel, by decide +kernel⟩, List.mem_of_getElem? (i := 1523) (by decide +kernel), List.mem_of_getElem? (i := 2070) (by decide +kernel), List.mem_of_getElem? (i := 2071) (by decide +kernel)⟩
theorem lw_p100 : lw_okq (⟨"HillBoxesModel", "wrong", "()V"⟩, 90) := ⟨⟨by decide +kernel, by decide +kernel⟩, List.mem_of_getElem? (i := 1523) (by decide +kernel), List.mem_of_getElem? (i := 2074) (by decide +kernel), List.mem_of_getElem? (i := 2075) (by decide +kernel)⟩
theorem lw_p101 : lw_okq (⟨"HillBoxesModel", "lay", "(II)V"⟩, 90) := ⟨⟨by decide +kernel, by decide +kernel⟩, List.mem_of_getElem? (i := 1523) (by decide +kernel), List.mem_of_getElem? (i := 2078) (by decide +kernel), List.mem_of_getElem? (i := 2079) (by decide +kernel)⟩
theorem lw_p102 : lw_okq (⟨"HillBoxesModel", "sum", "()V"⟩, 90) := ⟨⟨by decide +kernel, by decide +kernel⟩, List.mem_of_getElem? (i := 1523) (by decide +kernel), List.mem_of_getElem? (i := 2082) (by decide +kernel), List.mem_of_getElem? (i := 2083) (by decide +kernel)⟩
theorem lw_p103 : lw_okq (⟨"HillBoxesModel", "product", "()V"⟩, 90) := ⟨⟨by decide +kernel, by decide +kernel⟩, List.mem_of_getElem? (i := 1523) (by decide +kernel), List.mem_of_getElem? (i := 2086) (by decide +kernel), List.mem_of_getElem? (i := 2087) (by decide +kernel)⟩
theorem lw_p104 : lw_okq (⟨"HillBoxesModel", "operand", "()V"⟩, 90) := ⟨⟨by decide +kernel, by decide +kernel⟩, List.mem_of_getElem? (i := 1523) (by decide +kernel), List.mem_of_getElem? (i := 2090) (by decide +kernel), List.mem_of_getElem? (i := 2091) (by decide +kernel)⟩
theorem lw_p105 : lw_okq (⟨"HillBoxesModel", "nameHere", "()I"⟩, 90) := ⟨⟨by decide +kernel, by decide +kernel⟩, List.mem_of_getElem? (i := 1523) (by decide +kernel), List.mem_of_getElem? (i := 2094) (by decide +kernel), List.mem_of_getElem? (i := 2095) (by decide +kernel)⟩
theorem lw_p106 : lw_okq (⟨"HillBoxesModel", "nearNow", "()I"⟩, 90) := ⟨⟨by decide +kernel, by decide +kernel⟩, List.mem_of_getElem? (i := 1523) (by decide +kernel), List.mem_of_getElem? (i := 2110) (by decide +kernel), List.mem_of_getElem? (i := 2111) (by decide +kernel)⟩
theorem lw_p107 : lw_okq (⟨"HillBoxesModel", "hideBy", "(III)I"⟩, 90) := ⟨⟨by decide +kernel, by decide +kernel⟩, List.mem_of_getElem? (i := 1523) (by decide +kernel), List.mem_of_getElem? (i := 2114) (by decide +kernel), List.mem_of_getElem? (i := 2115) (by decide +kernel)⟩
theorem lw_p108 : lw_okq (⟨"HillBoxesModel", "downOf", "(I)I"⟩, 90) := ⟨⟨by decide +kernel, by decide +kernel⟩, List.mem_of_getElem? (i := 1523) (by decide +kernel), List.mem_of_getElem? (i := 2118) (by decide +kernel), List.mem_of_getElem? (i := 2119) (by decide +kernel)⟩
theorem lw_p109 : lw_okq (⟨"HillBoxesModel", "shownTo", "(II)I"⟩, 90) := ⟨⟨by decide +kernel, by decide +kernel⟩, List.mem_of_getElem? (i := 1523) (by decide +kernel), List.mem_of_getElem? (i := 2122) (by decide +kernel), List.mem_of_getElem? (i := 2123) (by decide +kernel)⟩
theorem lw_p110 : lw_okq (⟨"HillBoxesModel", "canAsk", "(III)Z"⟩, 90) := ⟨⟨by decide +kernel, by decide +kernel⟩, List.mem_of_getElem? (i := 1523) (by decide +kernel), List.mem_of_getElem? (i := 2134) (by decide +kernel), List.mem_of_getElem? (i := 2135) (by decide +kernel)⟩
theorem lw_p111 : lw_okq (⟨"HillBoxesModel", "whyNot", "(III)I"⟩, 90) := ⟨⟨by decide +kernel, by decide +kernel⟩, List.mem_of_getElem? (i := 1523) (by decide +kernel), List.mem_of_getElem? (i := 2138) (by decide +kernel), List.mem_of_getElem? (i := 2139) (by decide +kernel)⟩
def lw_privs_7 : List (MethodName × Nat) := [(⟨"HillBoxesModel", "either", "()V"⟩, 90), (⟨"HillBoxesModel", "both", "()V"⟩, 90), (⟨"HillBoxesModel", "compared", "()V"⟩, 90), (⟨"HillBoxesModel", "opens", "()Z"⟩, 90), (⟨"HillBoxesModel", "wrong", "()V"⟩, 90), (⟨"HillBoxesModel", "lay", "(II)V"⟩, 90), (⟨"HillBoxesModel", "sum", "()V"⟩, 90), (⟨"HillBoxesModel", "product", "()V"⟩, 90), (⟨"HillBoxesModel", "operand", "()V"⟩, 90), (⟨"HillBoxesModel", "nameHere", "()I"⟩, 90), (⟨"HillBoxesModel", "nearNow", "()I"⟩, 90), (⟨"HillBoxesModel", "hideBy", "(III)I"⟩, 90), (⟨"HillBoxesModel", "downOf", "(I)I"⟩, 90), (⟨"HillBoxesModel", "shownTo", "(II)I"⟩, 90), (⟨"HillBoxesModel", "canAsk", "(III)Z"⟩, 90), (⟨"HillBoxesModel", "whyNot", "(III)I"⟩, 90)]
theorem lw_r7 : ∀ q ∈ lw_privs_7, lw_okq q := List.forall_mem_cons.mpr ⟨lw_p96, List.forall_mem_cons.mpr ⟨lw_p97, List.forall_mem_cons.mpr ⟨lw_p98, List.forall_mem_cons.mpr ⟨lw_p99, List.forall_mem_cons.mpr ⟨lw_p100, List.forall_mem_cons.mpr ⟨lw_p101, List.forall_mem_cons.mpr ⟨lw_p102, List.forall_mem_cons.mpr ⟨lw_p103, List.forall_mem_cons.mpr ⟨lw_p104, List.forall_mem_cons.mpr ⟨lw_p105, List.forall_mem_cons.mpr ⟨lw_p106, List.forall_mem_cons.mpr ⟨lw_p107, List.forall_mem_cons.mpr ⟨lw_p108, List.forall_mem_cons.mpr ⟨lw_p109, List.forall_mem_cons.mpr ⟨lw_p110, List.forall_mem_cons.mpr ⟨lw_p111, fun _ h => absurd h List.not_mem_nil⟩⟩⟩⟩⟩⟩⟩⟩⟩⟩⟩⟩⟩⟩⟩⟩
theorem lw_p112 : lw_okq (⟨"HillBoxesModel", "mayLeave", "(III)Z"⟩, 90) := ⟨⟨by decide +kernel, by decide +kernel⟩, List.mem_of_getElem? (i := 1523) (by decide +kernel), List.mem_of_getElem? (i := 2142) (by decide +kernel), List.mem_of_getElem? (i := 2143) (by decide +kernel)⟩
theorem lw_p113 : lw_okq (⟨"HillBoxesModel", "isRiddle", "(I)Z"⟩, 90) := ⟨⟨by decide +kernel, by decide +kernel⟩, List.mem_of_getElem? (i := 1523) (by decide +kernel), List.mem_of_getElem? (i := 2154) (by decide +kernel), List.mem_of_getElem? (i := 2155) (by decide +kernel)⟩
theorem lw_p114 : lw_okq (⟨"HillBoxesModel", "canSolve", "(I)Z"⟩, 90) := ⟨⟨by decide +kernel, by decide +kernel⟩, List.mem_of_getElem? (i := 1523) (by decide +kernel), List.mem_of_getElem? (i := 2166) (by decide +kernel), List.mem_of_getElem? (i := 2167) (by decide +kernel)⟩
theorem lw_p115 : lw_okq (⟨"HillBoxesModel", "placeTold", "(II)I"⟩, 90) := ⟨⟨by decide +kernel, by decide +kernel⟩, List.mem_of_getElem? (i := 1523) (by decide +kernel), List.mem_of_getElem? (i := 2170) (by decide +kernel), List.mem_of_getElem? (i := 2171) (by decide +kernel)⟩
theorem lw_p116 : lw_okq (⟨"HillBoxesModel", "solveAll", "(II)V"⟩, 90) := ⟨⟨by decide +kernel, by decide +kernel⟩, List.mem_of_getElem? (i := 1523) (by decide +kernel), List.mem_of_getElem? (i := 2174) (by decide +kernel), List.mem_of_getElem? (i := 2175) (by decide +kernel)⟩
theorem lw_p117 : lw_okq (⟨"HillBoxesModel", "findLetters", "(I)V"⟩, 90) := ⟨⟨by decide +kernel, by decide +kernel⟩, List.mem_of_getElem? (i := 1523) (by decide +kernel), List.mem_of_getElem? (i := 2178) (by decide +kernel), List.mem_of_getElem? (i := 2179) (by decide +kernel)⟩
theorem lw_p118 : lw_okq (⟨"HillBoxesModel", "solveOn", "(II)V"⟩, 90) := ⟨⟨by decide +kernel, by decide +kernel⟩, List.mem_of_getElem? (i := 1523) (by decide +kernel), List.mem_of_getElem? (i := 2182) (by decide +kernel), List.mem_of_getElem? (i := 2183) (by decide +kernel)⟩
theorem lw_p119 : lw_okq (⟨"HillBoxesModel", "isSolved", "()Z"⟩, 90) := ⟨⟨by decide +kernel, by decide +kernel⟩, List.mem_of_getElem? (i := 1523) (by decide +kernel), List.mem_of_getElem? (i := 2186) (by decide +kernel), List.mem_of_getElem? (i := 2187) (by decide +kernel)⟩
theorem lw_p120 : lw_okq (⟨"HillBoxesModel", "holdsNow", "(I)Z"⟩, 90) := ⟨⟨by decide +kernel, by decide +kernel⟩, List.mem_of_getElem? (i := 1523) (by decide +kernel), List.mem_of_getElem? (i := 2190) (by decide +kernel), List.mem_of_getElem? (i := 2191) (by decide +kernel)⟩
theorem lw_p121 : lw_okq (⟨"HillBoxesModel", "placeIs", "(I)I"⟩, 90) := ⟨⟨by decide +kernel, by decide +kernel⟩, List.mem_of_getElem? (i := 1523) (by decide +kernel), List.mem_of_getElem? (i := 2194) (by decide +kernel), List.mem_of_getElem? (i := 2195) (by decide +kernel)⟩
theorem lw_p122 : lw_okq (⟨"HillBoxesModel", "isThing", "(I)Z"⟩, 90) := ⟨⟨by decide +kernel, by decide +kernel⟩, List.mem_of_getElem? (i := 1523) (by decide +kernel), List.mem_of_getElem? (i := 2212) (by decide +kernel), List.mem_of_getElem? (i := 2213) (by decide +kernel)⟩
theorem lw_p123 : lw_okq (⟨"HillBoxesModel", "isJump", "(II)Z"⟩, 90) := ⟨⟨by decide +kernel, by decide +kernel⟩, List.mem_of_getElem? (i := 1523) (by decide +kernel), List.mem_of_getElem? (i := 2220) (by decide +kernel), List.mem_of_getElem? (i := 2221) (by decide +kernel)⟩
theorem lw_p124 : lw_okq (⟨"HillBoxesModel", "takerOf", "(I)I"⟩, 90) := ⟨⟨by decide +kernel, by decide +kernel⟩, List.mem_of_getElem? (i := 1523) (by decide +kernel), List.mem_of_getElem? (i := 2236) (by decide +kernel), List.mem_of_getElem? (i := 2237) (by decide +kernel)⟩
theorem lw_p125 : lw_okq (⟨"HillBoxesModel", "isWalk", "(II)Z"⟩, 90) := ⟨⟨by decide +kernel, by decide +kernel⟩, List.mem_of_getElem? (i := 1523) (by decide +kernel), List.mem_of_getElem? (i := 2260) (by decide +kernel), List.mem_of_getElem? (i := 2261) (by decide +kernel)⟩
theorem lw_p126 : lw_okq (⟨"HillBoxesModel", "begin", "(II)V"⟩, 90) := ⟨⟨by decide +kernel, by decide +kernel⟩, List.mem_of_getElem? (i := 1523) (by decide +kernel), List.mem_of_getElem? (i := 2264) (by decide +kernel), List.mem_of_getElem? (i := 2265) (by decide +kernel)⟩
theorem lw_p127 : lw_okq (⟨"HillBoxesModel", "walkOn", "(IIIII)V"⟩, 90) := ⟨⟨by decide +kernel, by decide +kernel⟩, List.mem_of_getElem? (i := 1523) (by decide +kernel), List.mem_of_getElem? (i := 2268) (by decide +kernel), List.mem_of_getElem? (i := 2269) (by decide +kernel)⟩
def lw_privs_8 : List (MethodName × Nat) := [(⟨"HillBoxesModel", "mayLeave", "(III)Z"⟩, 90), (⟨"HillBoxesModel", "isRiddle", "(I)Z"⟩, 90), (⟨"HillBoxesModel", "canSolve", "(I)Z"⟩, 90), (⟨"HillBoxesModel", "placeTold", "(II)I"⟩, 90), (⟨"HillBoxesModel", "solveAll", "(II)V"⟩, 90), (⟨"HillBoxesModel", "findLetters", "(I)V"⟩, 90), (⟨"HillBoxesModel", "solveOn", "(II)V"⟩, 90), (⟨"HillBoxesModel", "isSolved", "()Z"⟩, 90), (⟨"HillBoxesModel", "holdsNow", "(I)Z"⟩, 90), (⟨"HillBoxesModel", "placeIs", "(I)I"⟩, 90), (⟨"HillBoxesModel", "isThing", "(I)Z"⟩, 90), (⟨"HillBoxesModel", "isJump", "(II)Z"⟩, 90), (⟨"HillBoxesModel", "takerOf", "(I)I"⟩, 90), (⟨"HillBoxesModel", "isWalk", "(II)Z"⟩, 90), (⟨"HillBoxesModel", "begin", "(II)V"⟩, 90), (⟨"HillBoxesModel", "walkOn", "(IIIII)V"⟩, 90)]
theorem lw_r8 : ∀ q ∈ lw_privs_8, lw_okq q := List.forall_mem_cons.mpr ⟨lw_p112, List.forall_mem_cons.mpr ⟨lw_p113, List.forall_mem_cons.mpr ⟨lw_p114, List.forall_mem_cons.mpr ⟨lw_p115, List.forall_mem_cons.mpr ⟨lw_p116, List.forall_mem_cons.mpr ⟨lw_p117, List.forall_mem_cons.mpr ⟨lw_p118, List.forall_mem_cons.mpr ⟨lw_p119, List.forall_mem_cons.mpr ⟨lw_p120, List.forall_mem_cons.mpr ⟨lw_p121, List.forall_mem_cons.mpr ⟨lw_p122, List.forall_mem_cons.mpr ⟨lw_p123, List.forall_mem_cons.mpr ⟨lw_p124, List.forall_mem_cons.mpr ⟨lw_p125, List.forall_mem_cons.mpr ⟨lw_p126, List.forall_mem_cons.mpr ⟨lw_p127, fun _ h => absurd h List.not_mem_nil⟩⟩⟩⟩⟩⟩⟩⟩⟩⟩⟩⟩⟩⟩⟩⟩
theorem lw_p128 : lw_okq (⟨"HillBoxesModel", "hourBehind", "(III)I"⟩, 90) := ⟨⟨by decide +kernel, by decide +kernel⟩, List.mem_of_getElem? (i := 1523) (by decide +kernel), List.mem_of_getElem? (i := 2275) (by decide +kernel), List.mem_of_getElem? (i := 2276) (by decide +kernel)⟩
theorem lw_p129 : lw_okq (⟨"HillBoxesModel", "isUnfound", "(I)Z"⟩, 90) := ⟨⟨by decide +kernel, by decide +kernel⟩, List.mem_of_getElem? (i := 1523) (by decide +kernel), List.mem_of_getElem? (i := 2291) (by decide +kernel), List.mem_of_getElem? (i := 2292) (by decide +kernel)⟩
theorem lw_p130 : lw_okq (⟨"HillBoxesModel", "boundOf", "(III)I"⟩, 90) := ⟨⟨by decide +kernel, by decide +kernel⟩, List.mem_of_getElem? (i := 1523) (by decide +kernel), List.mem_of_getElem? (i := 2299) (by decide +kernel), List.mem_of_getElem? (i := 2300) (by decide +kernel)⟩
theorem lw_p131 : lw_okq (⟨"HillBoxesModel", "findWays", "()V"⟩, 90) := ⟨⟨by decide +kernel, by decide +kernel⟩, List.mem_of_getElem? (i := 1523) (by decide +kernel), List.mem_of_getElem? (i := 2303) (by decide +kernel), List.mem_of_getElem? (i := 2304) (by decide +kernel)⟩
theorem lw_p132 : lw_okq (⟨"HillBoxesModel", "findRanks", "(II)V"⟩, 90) := ⟨⟨by decide +kernel, by decide +kernel⟩, List.mem_of_getElem? (i := 1523) (by decide +kernel), List.mem_of_getElem? (i := 2313) (by decide +kernel), List.mem_of_getElem? (i := 2314) (by decide +kernel)⟩
theorem lw_p133 : lw_okq (⟨"HillBoxesModel", "hides", "(II)I"⟩, 90) := ⟨⟨by decide +kernel, by decide +kernel⟩, List.mem_of_getElem? (i := 1523) (by decide +kernel), List.mem_of_getElem? (i := 2321) (by decide +kernel), List.mem_of_getElem? (i := 2322) (by decide +kernel)⟩
theorem lw_p134 : lw_okq (⟨"HillBoxesModel", "ran", "(I)V"⟩, 90) := ⟨⟨by decide +kernel, by decide +kernel⟩, List.mem_of_getElem? (i := 1523) (by decide +kernel), List.mem_of_getElem? (i := 2325) (by decide +kernel), List.mem_of_getElem? (i := 2326) (by decide +kernel)⟩
theorem lw_p135 : lw_okq (⟨"HillBoxesModel", "boxHides", "(II)I"⟩, 90) := ⟨⟨by decide +kernel, by decide +kernel⟩, List.mem_of_getElem? (i := 1523) (by decide +kernel), List.mem_of_getElem? (i := 2329) (by decide +kernel), List.mem_of_getElem? (i := 2330) (by decide +kernel)⟩
theorem lw_p136 : lw_okq (⟨"HillBoxesModel", "plainHides", "(II)I"⟩, 90) := ⟨⟨by decide +kernel, by decide +kernel⟩, List.mem_of_getElem? (i := 1523) (by decide +kernel), List.mem_of_getElem? (i := 2333) (by decide +kernel), List.mem_of_getElem? (i := 2334) (by decide +kernel)⟩
theorem lw_p137 : lw_okq (⟨"HillBoxesModel", "tells", "(II)I"⟩, 90) := ⟨⟨by decide +kernel, by decide +kernel⟩, List.mem_of_getElem? (i := 1523) (by decide +kernel), List.mem_of_getElem? (i := 2337) (by decide +kernel), List.mem_of_getElem? (i := 2338) (by decide +kernel)⟩
theorem lw_p138 : lw_okq (⟨"HillBoxesModel", "riddleTells", "(II)I"⟩, 90) := ⟨⟨by decide +kernel, by decide +kernel⟩, List.mem_of_getElem? (i := 1523) (by decide +kernel), List.mem_of_getElem? (i := 2341) (by decide +kernel), List.mem_of_getElem? (i := 2342) (by decide +kernel)⟩
theorem lw_p139 : lw_okq (⟨"HillBoxesModel", "plainTells", "(II)I"⟩, 90) := ⟨⟨by decide +kernel, by decide +kernel⟩, List.mem_of_getElem? (i := 1523) (by decide +kernel), List.mem_of_getElem? (i := 2345) (by decide +kernel), List.mem_of_getElem? (i := 2346) (by decide +kernel)⟩
theorem lw_p140 : lw_okq (⟨"HillBoxesModel", "finds", "(II)I"⟩, 90) := ⟨⟨by decide +kernel, by decide +kernel⟩, List.mem_of_getElem? (i := 1523) (by decide +kernel), List.mem_of_getElem? (i := 2349) (by decide +kernel), List.mem_of_getElem? (i := 2350) (by decide +kernel)⟩
theorem lw_p141 : lw_okq (⟨"HillBoxesModel", "plainFinds", "(II)I"⟩, 90) := ⟨⟨by decide +kernel, by decide +kernel⟩, List.mem_of_getElem? (i := 1523) (by decide +kernel), List.mem_of_getElem? (i := 2353) (by decide +kernel), List.mem_of_getElem? (i := 2354) (by decide +kernel)⟩
theorem lw_p142 : lw_okq (⟨"HillBoxesModel", "ends", "(II)I"⟩, 90) := ⟨⟨by decide +kernel, by decide +kernel⟩, List.mem_of_getElem? (i := 1523) (by decide +kernel), List.mem_of_getElem? (i := 2357) (by decide +kernel), List.mem_of_getElem? (i := 2358) (by decide +kernel)⟩
theorem lw_p143 : lw_okq (⟨"HillBoxesModel", "plainEnds", "(II)I"⟩, 90) := ⟨⟨by decide +kernel, by decide +kernel⟩, List.mem_of_getElem? (i := 1523) (by decide +kernel), List.mem_of_getElem? (i := 2361) (by decide +kernel), List.mem_of_getElem? (i := 2362) (by decide +kernel)⟩
def lw_privs_9 : List (MethodName × Nat) := [(⟨"HillBoxesModel", "hourBehind", "(III)I"⟩, 90), (⟨"HillBoxesModel", "isUnfound", "(I)Z"⟩, 90), (⟨"HillBoxesModel", "boundOf", "(III)I"⟩, 90), (⟨"HillBoxesModel", "findWays", "()V"⟩, 90), (⟨"HillBoxesModel", "findRanks", "(II)V"⟩, 90), (⟨"HillBoxesModel", "hides", "(II)I"⟩, 90), (⟨"HillBoxesModel", "ran", "(I)V"⟩, 90), (⟨"HillBoxesModel", "boxHides", "(II)I"⟩, 90), (⟨"HillBoxesModel", "plainHides", "(II)I"⟩, 90), (⟨"HillBoxesModel", "tells", "(II)I"⟩, 90), (⟨"HillBoxesModel", "riddleTells", "(II)I"⟩, 90), (⟨"HillBoxesModel", "plainTells", "(II)I"⟩, 90), (⟨"HillBoxesModel", "finds", "(II)I"⟩, 90), (⟨"HillBoxesModel", "plainFinds", "(II)I"⟩, 90), (⟨"HillBoxesModel", "ends", "(II)I"⟩, 90), (⟨"HillBoxesModel", "plainEnds", "(II)I"⟩, 90)]
theorem lw_r9 : ∀ q ∈ lw_privs_9, lw_okq q := List.forall_mem_cons.mpr ⟨lw_p128, List.forall_mem_cons.mpr ⟨lw_p129, List.forall_mem_cons.mpr ⟨lw_p130, List.forall_mem_cons.mpr ⟨lw_p131, List.forall_mem_cons.mpr ⟨lw_p132, List.forall_mem_cons.mpr ⟨lw_p133, List.forall_mem_cons.mpr ⟨lw_p134, List.forall_mem_cons.mpr ⟨lw_p135, List.forall_mem_cons.mpr ⟨lw_p136, List.forall_mem_cons.mpr ⟨lw_p137, List.forall_mem_cons.mpr ⟨lw_p138, List.forall_mem_cons.mpr ⟨lw_p139, List.forall_mem_cons.mpr ⟨lw_p140, List.forall_mem_cons.mpr ⟨lw_p141, List.forall_mem_cons.mpr ⟨lw_p142, List.forall_mem_cons.mpr ⟨lw_p143, fun _ h => absurd h List.not_mem_nil⟩⟩⟩⟩⟩⟩⟩⟩⟩⟩⟩⟩⟩⟩⟩⟩
theorem lw_p144 : lw_okq (⟨"HillBoxesModel", "whyNoPlace", "(II)I"⟩, 90) := ⟨⟨by decide +kernel, by decide +kernel⟩, List.mem_of_getElem? (i := 1523) (by decide +kernel), List.mem_of_getElem? (i := 2385) (by decide +kernel), List.mem_of_getElem? (i := 2386) (by decide +kernel)⟩
def lw_privs_10 : List (MethodName × Nat) := [(⟨"HillBoxesModel", "whyNoPlace", "(II)I"⟩, 90)]
theorem lw_r10 : ∀ q ∈ lw_privs_10, lw_okq q := List.forall_mem_cons.mpr ⟨lw_p144, fun _ h => absurd h List.not_mem_nil⟩
def lw_privs : List (MethodName × Nat) := lw_privs_1 ++ (lw_privs_2 ++ (lw_privs_3 ++ (lw_privs_4 ++ (lw_privs_5 ++ (lw_privs_6 ++ (lw_privs_7 ++ (lw_privs_8 ++ (lw_privs_9 ++ (lw_privs_10)))))))))
def lw_tbl : List Cond := k2_sels lw_privs ++ tables_1
theorem lw_privs_ok : ∀ q ∈ lw_privs, lw_okq q := by
  show ∀ q ∈ lw_privs_1 ++ (lw_privs_2 ++ (lw_privs_3 ++ (lw_privs_4 ++ (lw_privs_5 ++ (lw_privs_6 ++ (lw_privs_7 ++ (lw_privs_8 ++ (lw_privs_9 ++ (lw_privs_10))))))))), lw_okq q
  exact List.forall_mem_append.mpr ⟨lw_r1, List.forall_mem_append.mpr ⟨lw_r2, List.forall_mem_append.mpr ⟨lw_r3, List.forall_mem_append.mpr ⟨lw_r4, List.forall_mem_append.mpr ⟨lw_r5, List.forall_mem_append.mpr ⟨lw_r6, List.forall_mem_append.mpr ⟨lw_r7, List.forall_mem_append.mpr ⟨lw_r8, List.forall_mem_append.mpr ⟨lw_r9, lw_r10⟩⟩⟩⟩⟩⟩⟩⟩⟩
theorem sel_priv {y : MethodName} {C : String} {s : State} {args : Array Value} {n n2 : Nat} (hy : y.cls ≠ "java/lang/invoke/MethodHandle" ∧ y.cls ≠ "java/lang/invoke/VarHandle")
    (hinsC : (Cond.instantiable C n2).before args s = true) (hins : (Cond.instantiable y.cls n).before args s = true) (hpriv : (Cond.privateMethod y).before args s = true) (hinst : (Cond.instanceMethod y).before args s = true) :
    (Cond.selects C y y).before args s = true := by
  obtain ⟨cC, kC, hcC, -⟩ := Cond.instantiable_spec hinsC
  obtain ⟨c, k, hc, hk, -, hniab, -, -⟩ := Cond.instantiable_spec hins
  have hni : k.isInterface = false := (Bool.or_eq_false_iff.mp hniab).1
  obtain ⟨mk, methM, hnamed, hmethM, -, -⟩ := Cond.instanceMethod_spec hinst
  have hfound : s.methodFound? y.cls y.name y.desc = some mk := State.methodFound?_of_named hnamed hy
  have hcls : mk.cls = c := Option.some.inj ((findClass_of_methodNamed hnamed).symm.trans hc)
  have hsel : selectMethod {} s.vm cC mk = .method mk := selectMethod_private hmethM (Cond.privateMethod_at hpriv mk methM hnamed hmethM)
  simp only [Cond.before, Cond.holds, Cond.value, hcC, hfound, hnamed, hsel, hcls, hk]
  simp
  exact hni
/-- private methods of Body, called on a Body of another class -/
def lw_xs : List Cond := ["HillBoxes$Box", "HillBoxes$Finder", "HillBoxes$Thing"].flatMap (fun C => [Cond.selects C ⟨"HillBoxes$Body", "run", "(III[II)I"⟩ ⟨"HillBoxes$Body", "run", "(III[II)I"⟩, Cond.selects C ⟨"HillBoxes$Body", "runBody", "(III[II)I"⟩ ⟨"HillBoxes$Body", "runBody", "(III[II)I"⟩])
def lw_big : List Cond := lw_xs ++ lw_tbl.filter goodWord
theorem big_good : GoodIn lw_big lw_big := fun w h => ⟨h, good_of_word ((List.mem_append.mp h).elim (fun h => List.all_eq_true.mp (show lw_xs.all goodWord = true from rfl) w h) (fun h => (List.mem_filter.mp h).2))⟩
theorem big_hold {args : Array Value} {s : State} (h : ∀ w ∈ lw_tbl, w.before args s = true) : ∀ w ∈ lw_big, w.before args s = true := by
  intro w hw
  rcases List.mem_append.mp hw with hw | hw
  · have i1 := h _ (List.mem_append_right _ (show Cond.instantiable "HillBoxes$Box" 19 ∈ tables_1 from List.mem_of_getElem? (i := 559) (by decide +kernel)))
    have i2 := h _ (List.mem_append_right _ (show Cond.instantiable "HillBoxes$Finder" 5 ∈ tables_1 from List.mem_of_getElem? (i := 409) (by decide +kernel)))
    have i3 := h _ (List.mem_append_right _ (show Cond.instantiable "HillBoxes$Thing" 5 ∈ tables_1 from List.mem_of_getElem? (i := 350) (by decide +kernel)))
    have i0 := h _ (List.mem_append_right _ (show Cond.instantiable "HillBoxes$Body" 2 ∈ tables_1 from List.mem_of_getElem? (i := 395) (by decide +kernel)))
    have r1 := h _ (List.mem_append_right _ (show Cond.privateMethod ⟨"HillBoxes$Body", "run", "(III[II)I"⟩ ∈ tables_1 from List.mem_of_getElem? (i := 1427) (by decide +kernel)))
    have r2 := h _ (List.mem_append_right _ (show Cond.instanceMethod ⟨"HillBoxes$Body", "run", "(III[II)I"⟩ ∈ tables_1 from List.mem_of_getElem? (i := 1428) (by decide +kernel)))
    have b1 := h _ (List.mem_append_right _ (show Cond.privateMethod ⟨"HillBoxes$Body", "runBody", "(III[II)I"⟩ ∈ tables_1 from List.mem_of_getElem? (i := 1435) (by decide +kernel)))
    have b2 := h _ (List.mem_append_right _ (show Cond.instanceMethod ⟨"HillBoxes$Body", "runBody", "(III[II)I"⟩ ∈ tables_1 from List.mem_of_getElem? (i := 1436) (by decide +kernel)))
    simp only [lw_xs, List.flatMap_cons, List.flatMap_nil, List.cons_append, List.nil_append, List.append_nil, List.mem_cons, List.not_mem_nil, or_false] at hw
    rcases hw with rfl | rfl | rfl | rfl | rfl | rfl
    · exact sel_priv ⟨by decide, by decide⟩ i1 i0 r1 r2
    · exact sel_priv ⟨by decide, by decide⟩ i1 i0 b1 b2
    · exact sel_priv ⟨by decide, by decide⟩ i2 i0 r1 r2
    · exact sel_priv ⟨by decide, by decide⟩ i2 i0 b1 b2
    · exact sel_priv ⟨by decide, by decide⟩ i3 i0 r1 r2
    · exact sel_priv ⟨by decide, by decide⟩ i3 i0 b1 b2
  · exact h w (List.mem_filter.mp hw).1
theorem big_at {w : Cond} (i : Nat) (h : tables_1[i]? = some w) (hg : goodWord w = true) : w ∈ lw_big := List.mem_append_right _ (List.mem_filter.mpr ⟨List.mem_append_right _ (List.mem_of_getElem? h), hg⟩)
theorem big_sel {w : Cond} (i : Nat) (h : (k2_sels lw_privs)[i]? = some w) (hg : goodWord w = true) : w ∈ lw_big := List.mem_append_right _ (List.mem_filter.mpr ⟨List.mem_append_left _ (List.mem_of_getElem? h), hg⟩)
theorem big_xs {w : Cond} (i : Nat) (h : lw_xs[i]? = some w) : w ∈ lw_big := List.mem_append_left _ (List.mem_of_getElem? h)
theorem tbl_at {w : Cond} (i : Nat) (h : tables_1[i]? = some w) : w ∈ lw_tbl := List.mem_append_right _ (List.mem_of_getElem? h)
theorem in_big {ws : List Cond} (ps : List Nat) (h : ws = ps.filterMap (fun i => tables_1[i]?)) (hg : ws.all goodWord = true) : ∀ w ∈ ws, w ∈ lw_big := by
  intro w hw
  have h1 := List.all_eq_true.mp hg w hw
  rw [h] at hw
  obtain ⟨i, -, hi⟩ := List.mem_filterMap.mp hw
  exact big_at i hi h1

def RX0 : String := "HillBoxes$Body"
def TX0 : u_T := fun k => match k with
  | 0 => ("HillBoxes$Body", "number", "I", true)
  | _ => ("HillBoxes$Body", "kind", "I", true)
def tyX0 : Nat → FieldType := fun k => match k with
  | 0 => .int
  | _ => .int
abbrev wsX00 : List Cond := u_ws RX0 TX0 2
theorem nmX0 : ∀ a, a < 2 → ∀ b, b < 2 → a ≠ b → (TX0 a).2.1 ≠ (TX0 b).2.1 := by decide +kernel
theorem tyX0_ok : ∀ k, k < 2 → parseFieldDescriptor (TX0 k).2.2.1 = some (tyX0 k) := by decide +kernel
abbrev cX0_init : ByteArray := prog_2_method_1_code
def yX0_init : MethodName := ⟨RX0, "<init>", "(II)V"⟩
abbrev cX0_cellNow : ByteArray := prog_2_method_2_code
def yX0_cellNow : MethodName := ⟨RX0, "cellNow", "()I"⟩
abbrev cX0_isUnder : ByteArray := prog_2_method_3_code
def yX0_isUnder : MethodName := ⟨RX0, "isUnder", "(I)Z"⟩
abbrev cX0_perform : ByteArray := prog_2_method_4_code
def yX0_perform : MethodName := ⟨RX0, "perform", "(II[I)I"⟩
abbrev cX0_run : ByteArray := prog_2_method_5_code
def yX0_run : MethodName := ⟨RX0, "run", "(III[II)I"⟩
abbrev cX0_runBody : ByteArray := prog_2_method_6_code
def yX0_runBody : MethodName := ⟨RX0, "runBody", "(III[II)I"⟩
def RX1 : String := "HillBoxes$Box"
def TX1 : u_T := fun k => match k with
  | 0 => ("HillBoxes$Body", "number", "I", true)
  | 1 => ("HillBoxes$Body", "kind", "I", true)
  | 2 => ("HillBoxes$Box", "hiddenOn", "I", true)
  | 3 => ("HillBoxes$Box", "hiddenAtCell", "I", true)
  | 4 => ("HillBoxes$Box", "steps", "[I", true)
  | 5 => ("HillBoxes$Box", "names", "[I", true)
  | 6 => ("HillBoxes$Box", "askers", "[I", true)
  | 7 => ("HillBoxes$Box", "riddle", "LHillBoxes$Riddle;", true)
  | 8 => ("HillBoxes$Box", "keeper", "I", false)
  | 9 => ("HillBoxes$Box", "cell", "I", false)
  | 10 => ("HillBoxes$Box", "stepCount", "I", false)
  | 11 => ("HillBoxes$Box", "downOn", "I", false)
  | 12 => ("HillBoxes$Box", "finds", "I", false)
  | 13 => ("HillBoxes$Box", "misses", "I", false)
  | 14 => ("HillBoxes$Box", "latestFound", "I", false)
  | 15 => ("HillBoxes$Box", "nameCount", "I", false)
  | 16 => ("HillBoxes$Box", "paperSeen", "Z", false)
  | 17 => ("HillBoxes$Box", "askerCount", "I", false)
  | _ => ("HillBoxes$Box", "lookedAt", "I", false)
def tyX1 : Nat → FieldType := fun k => match k with
  | 0 => .int
  | 1 => .int
  | 2 => .int
  | 3 => .int
  | 4 => .array .int
  | 5 => .array .int
  | 6 => .array .int
  | 7 => .object "HillBoxes$Riddle"
  | 8 => .int
  | 9 => .int
  | 10 => .int
  | 11 => .int
  | 12 => .int
  | 13 => .int
  | 14 => .int
  | 15 => .int
  | 16 => .boolean
  | 17 => .int
  | _ => .int
abbrev wsX10 : List Cond := u_ws RX1 TX1 19
theorem nmX1 : ∀ a, a < 19 → ∀ b, b < 19 → a ≠ b → (TX1 a).2.1 ≠ (TX1 b).2.1 := by decide +kernel
theorem tyX1_ok : ∀ k, k < 19 → parseFieldDescriptor (TX1 k).2.2.1 = some (tyX1 k) := by decide +kernel
abbrev cX1_init : ByteArray := prog_3_method_1_code
def yX1_init : MethodName := ⟨RX1, "<init>", "(IIIII)V"⟩
abbrev cX1_takeSteps : ByteArray := prog_3_method_2_code
def yX1_takeSteps : MethodName := ⟨RX1, "takeSteps", "([II)V"⟩
abbrev cX1_cellNow : ByteArray := prog_3_method_3_code
def yX1_cellNow : MethodName := ⟨RX1, "cellNow", "()I"⟩
abbrev cX1_liesNow : ByteArray := prog_3_method_4_code
def yX1_liesNow : MethodName := ⟨RX1, "liesNow", "()I"⟩
abbrev cX1_isDown : ByteArray := prog_3_method_5_code
def yX1_isDown : MethodName := ⟨RX1, "isDown", "()Z"⟩
abbrev cX1_isLookedAt : ByteArray := prog_3_method_6_code
def yX1_isLookedAt : MethodName := ⟨RX1, "isLookedAt", "()Z"⟩
abbrev cX1_isAskedBy : ByteArray := prog_3_method_7_code
def yX1_isAskedBy : MethodName := ⟨RX1, "isAskedBy", "(I)Z"⟩
abbrev cX1_isOnPaper : ByteArray := prog_3_method_8_code
def yX1_isOnPaper : MethodName := ⟨RX1, "isOnPaper", "(I)Z"⟩
def RX2 : String := "HillBoxes$Finder"
def TX2 : u_T := fun k => match k with
  | 0 => ("HillBoxes$Body", "number", "I", true)
  | 1 => ("HillBoxes$Body", "kind", "I", true)
  | 2 => ("HillBoxes$Finder", "home", "I", true)
  | 3 => ("HillBoxes$Finder", "since", "I", true)
  | _ => ("HillBoxes$Finder", "leftOn", "I", false)
def tyX2 : Nat → FieldType := fun k => match k with
  | 0 => .int
  | 1 => .int
  | 2 => .int
  | 3 => .int
  | _ => .int
abbrev wsX20 : List Cond := u_ws RX2 TX2 5
theorem nmX2 : ∀ a, a < 5 → ∀ b, b < 5 → a ≠ b → (TX2 a).2.1 ≠ (TX2 b).2.1 := by decide +kernel
theorem tyX2_ok : ∀ k, k < 5 → parseFieldDescriptor (TX2 k).2.2.1 = some (tyX2 k) := by decide +kernel
abbrev cX2_init : ByteArray := prog_4_method_1_code
def yX2_init : MethodName := ⟨RX2, "<init>", "(III)V"⟩
abbrev cX2_hasLeft : ByteArray := prog_4_method_2_code
def yX2_hasLeft : MethodName := ⟨RX2, "hasLeft", "()Z"⟩
def RX3 : String := "HillBoxes$Hills"
def TX3 : u_T := fun k => match k with
  | 0 => ("HillBoxes$Hills", "today", "I", false)
  | 1 => ("HillBoxes$Hills", "owners", "[I", true)
  | 2 => ("HillBoxes$Hills", "bodies", "[LHillBoxes$Body;", true)
  | 3 => ("HillBoxes$Hills", "size", "I", false)
  | 4 => ("HillBoxes$Hills", "steps", "[I", true)
  | 5 => ("HillBoxes$Hills", "stepCount", "I", false)
  | 6 => ("HillBoxes$Hills", "movedBox", "[I", true)
  | 7 => ("HillBoxes$Hills", "movedAt", "[I", true)
  | 8 => ("HillBoxes$Hills", "movedTo", "[I", true)
  | _ => ("HillBoxes$Hills", "moves", "I", false)
def tyX3 : Nat → FieldType := fun k => match k with
  | 0 => .int
  | 1 => .array .int
  | 2 => .array (.object "HillBoxes$Body")
  | 3 => .int
  | 4 => .array .int
  | 5 => .int
  | 6 => .array .int
  | 7 => .array .int
  | 8 => .array .int
  | _ => .int
abbrev wsX30 : List Cond := u_ws RX3 TX3 10
theorem nmX3 : ∀ a, a < 10 → ∀ b, b < 10 → a ≠ b → (TX3 a).2.1 ≠ (TX3 b).2.1 := by decide +kernel
theorem tyX3_ok : ∀ k, k < 10 → parseFieldDescriptor (TX3 k).2.2.1 = some (tyX3 k) := by decide +kernel
abbrev cX3_init : ByteArray := prog_5_method_1_code
def yX3_init : MethodName := ⟨RX3, "<init>", "()V"⟩
abbrev cX3_isFull : ByteArray := prog_5_method_2_code
def yX3_isFull : MethodName := ⟨RX3, "isFull", "()Z"⟩
abbrev cX3_enter : ByteArray := prog_5_method_3_code
def yX3_enter : MethodName := ⟨RX3, "enter", "(LHillBoxes$Body;)I"⟩
abbrev cX3_bodyAt : ByteArray := prog_5_method_4_code
def yX3_bodyAt : MethodName := ⟨RX3, "bodyAt", "(I)LHillBoxes$Body;"⟩
abbrev cX3_finderAt : ByteArray := prog_5_method_5_code
def yX3_finderAt : MethodName := ⟨RX3, "finderAt", "(I)LHillBoxes$Finder;"⟩
abbrev cX3_boxAt : ByteArray := prog_5_method_6_code
def yX3_boxAt : MethodName := ⟨RX3, "boxAt", "(I)LHillBoxes$Box;"⟩
abbrev cX3_thingAt : ByteArray := prog_5_method_7_code
def yX3_thingAt : MethodName := ⟨RX3, "thingAt", "(I)LHillBoxes$Thing;"⟩
abbrev cX3_ownOf : ByteArray := prog_5_method_8_code
def yX3_ownOf : MethodName := ⟨RX3, "ownOf", "(I)I"⟩
abbrev cX3_moveTo : ByteArray := prog_5_method_9_code
def yX3_moveTo : MethodName := ⟨RX3, "moveTo", "(LHillBoxes$Box;II)V"⟩
abbrev cX3_wasMovedFrom : ByteArray := prog_5_method_10_code
def yX3_wasMovedFrom : MethodName := ⟨RX3, "wasMovedFrom", "(II)Z"⟩
abbrev cX3_whereLay : ByteArray := prog_5_method_11_code
def yX3_whereLay : MethodName := ⟨RX3, "whereLay", "(LHillBoxes$Box;I)I"⟩
def RX4 : String := "HillBoxes$Logs"
def TX4 : u_T := fun k => match k with
  | 0 => ("HillBoxes$Logs", "finder", "[I", true)
  | 1 => ("HillBoxes$Logs", "found", "[Z", true)
  | 2 => ("HillBoxes$Logs", "size", "I", false)
  | 3 => ("HillBoxes$Logs", "tally", "[I", true)
  | 4 => ("HillBoxes$Logs", "box", "[I", true)
  | 5 => ("HillBoxes$Logs", "at", "[I", true)
  | 6 => ("HillBoxes$Logs", "tallied", "[Z", true)
  | 7 => ("HillBoxes$Logs", "hills", "LHillBoxes$Hills;", true)
  | _ => ("HillBoxes$Logs", "rules", "LHillBoxes$Rules;", true)
def tyX4 : Nat → FieldType := fun k => match k with
  | 0 => .array .int
  | 1 => .array .boolean
  | 2 => .int
  | 3 => .array .int
  | 4 => .array .int
  | 5 => .array .int
  | 6 => .array .boolean
  | 7 => .object "HillBoxes$Hills"
  | _ => .object "HillBoxes$Rules"
abbrev wsX40 : List Cond := u_ws RX4 TX4 9
theorem nmX4 : ∀ a, a < 9 → ∀ b, b < 9 → a ≠ b → (TX4 a).2.1 ≠ (TX4 b).2.1 := by decide +kernel
theorem tyX4_ok : ∀ k, k < 9 → parseFieldDescriptor (TX4 k).2.2.1 = some (tyX4 k) := by decide +kernel
abbrev cX4_init : ByteArray := prog_6_method_1_code
def yX4_init : MethodName := ⟨RX4, "<init>", "(LHillBoxes$Hills;LHillBoxes$Rules;)V"⟩
abbrev cX4_has : ByteArray := prog_6_method_2_code
def yX4_has : MethodName := ⟨RX4, "has", "(I)Z"⟩
abbrev cX4_enter : ByteArray := prog_6_method_3_code
def yX4_enter : MethodName := ⟨RX4, "enter", "(IIIZ)I"⟩
abbrev cX4_recount : ByteArray := prog_6_method_4_code
def yX4_recount : MethodName := ⟨RX4, "recount", "(LHillBoxes$Box;)V"⟩
abbrev cX4_isMissBehindFound : ByteArray := prog_6_method_5_code
def yX4_isMissBehindFound : MethodName := ⟨RX4, "isMissBehindFound", "(ILHillBoxes$Box;)Z"⟩
abbrev cX4_isBehind : ByteArray := prog_6_method_6_code
def yX4_isBehind : MethodName := ⟨RX4, "isBehind", "(II)Z"⟩
abbrev cX4_hasLogFrom : ByteArray := prog_6_method_7_code
def yX4_hasLogFrom : MethodName := ⟨RX4, "hasLogFrom", "(II)Z"⟩
abbrev cX4_joinOf : ByteArray := prog_6_method_8_code
def yX4_joinOf : MethodName := ⟨RX4, "joinOf", "(ILHillBoxes$Box;)I"⟩
abbrev cX4_firstThatCounts : ByteArray := prog_6_method_9_code
def yX4_firstThatCounts : MethodName := ⟨RX4, "firstThatCounts", "(I)I"⟩
abbrev cX4_placeOfBox : ByteArray := prog_6_method_10_code
def yX4_placeOfBox : MethodName := ⟨RX4, "placeOfBox", "(I)I"⟩
abbrev cX4_whyFalse : ByteArray := prog_6_method_11_code
def yX4_whyFalse : MethodName := ⟨RX4, "whyFalse", "(I)I"⟩
abbrev cX4_tooSoonBy : ByteArray := prog_6_method_12_code
def yX4_tooSoonBy : MethodName := ⟨RX4, "tooSoonBy", "(I)I"⟩
abbrev cX4_isBetweenMisses : ByteArray := prog_6_method_13_code
def yX4_isBetweenMisses : MethodName := ⟨RX4, "isBetweenMisses", "(I)Z"⟩
abbrev cX4_goneFrom : ByteArray := prog_6_method_14_code
def yX4_goneFrom : MethodName := ⟨RX4, "goneFrom", "(LHillBoxes$Box;)I"⟩
abbrev cX4_goneTo : ByteArray := prog_6_method_15_code
def yX4_goneTo : MethodName := ⟨RX4, "goneTo", "(LHillBoxes$Box;)I"⟩
abbrev cX4_chanceOf : ByteArray := prog_6_method_16_code
def yX4_chanceOf : MethodName := ⟨RX4, "chanceOf", "(Z)I"⟩
abbrev cX4_hasAnotherFound : ByteArray := prog_6_method_17_code
def yX4_hasAnotherFound : MethodName := ⟨RX4, "hasAnotherFound", "(I)Z"⟩
abbrev cX4_whereAfter : ByteArray := prog_6_method_18_code
def yX4_whereAfter : MethodName := ⟨RX4, "whereAfter", "(LHillBoxes$Thing;I)I"⟩
abbrev cX4_isJump : ByteArray := prog_6_method_19_code
def yX4_isJump : MethodName := ⟨RX4, "isJump", "(LHillBoxes$Thing;I)Z"⟩
abbrev cX4_chainOf : ByteArray := prog_6_method_20_code
def yX4_chainOf : MethodName := ⟨RX4, "chainOf", "(LHillBoxes$Thing;)I"⟩
abbrev cX4_tallyFinds : ByteArray := prog_6_method_21_code
def yX4_tallyFinds : MethodName := ⟨RX4, "tallyFinds", "(II)V"⟩
abbrev cX4_isTalliedAhead : ByteArray := prog_6_method_22_code
def yX4_isTalliedAhead : MethodName := ⟨RX4, "isTalliedAhead", "(I)Z"⟩
abbrev cX4_placeOf : ByteArray := prog_6_method_23_code
def yX4_placeOf : MethodName := ⟨RX4, "placeOf", "(I)I"⟩
def RX5 : String := "HillBoxes$Riddle"
def TX5 : u_T := fun k => match k with
  | 0 => ("HillBoxes$Riddle", "solution", "I", false)
  | 1 => ("HillBoxes$Riddle", "solutionCell", "I", false)
  | 2 => ("HillBoxes$Riddle", "cells", "J", false)
  | 3 => ("HillBoxes$Riddle", "sorts", "[I", true)
  | 4 => ("HillBoxes$Riddle", "firsts", "[I", true)
  | 5 => ("HillBoxes$Riddle", "seconds", "[I", true)
  | 6 => ("HillBoxes$Riddle", "numbers", "[I", true)
  | 7 => ("HillBoxes$Riddle", "lasts", "[I", true)
  | 8 => ("HillBoxes$Riddle", "told", "I", false)
  | 9 => ("HillBoxes$Riddle", "letters", "I", false)
  | 10 => ("HillBoxes$Riddle", "x", "I", false)
  | 11 => ("HillBoxes$Riddle", "y", "I", false)
  | 12 => ("HillBoxes$Riddle", "digits", "[I", true)
  | 13 => ("HillBoxes$Riddle", "met", "I", false)
  | _ => ("HillBoxes$Riddle", "wanted", "I", false)
def tyX5 : Nat → FieldType := fun k => match k with
  | 0 => .int
  | 1 => .int
  | 2 => .long
  | 3 => .array .int
  | 4 => .array .int
  | 5 => .array .int
  | 6 => .array .int
  | 7 => .array .int
  | 8 => .int
  | 9 => .int
  | 10 => .int
  | 11 => .int
  | 12 => .array .int
  | 13 => .int
  | _ => .int
abbrev wsX50 : List Cond := u_ws RX5 TX5 15
theorem nmX5 : ∀ a, a < 15 → ∀ b, b < 15 → a ≠ b → (TX5 a).2.1 ≠ (TX5 b).2.1 := by decide +kernel
theorem tyX5_ok : ∀ k, k < 15 → parseFieldDescriptor (TX5 k).2.2.1 = some (tyX5 k) := by decide +kernel
abbrev cX5_init : ByteArray := prog_7_method_1_code
def yX5_init : MethodName := ⟨RX5, "<init>", "()V"⟩
abbrev cX5_tellsCell : ByteArray := prog_7_method_2_code
def yX5_tellsCell : MethodName := ⟨RX5, "tellsCell", "()Z"⟩
abbrev cX5_takeTellings : ByteArray := prog_7_method_3_code
def yX5_takeTellings : MethodName := ⟨RX5, "takeTellings", "(LHillBoxes$Shelf;II)I"⟩
abbrev cX5_takeFive : ByteArray := prog_7_method_4_code
def yX5_takeFive : MethodName := ⟨RX5, "takeFive", "(LHillBoxes$Shelf;J)Z"⟩
abbrev cX5_isTelling : ByteArray := prog_7_method_5_code
def yX5_isTelling : MethodName := ⟨RX5, "isTelling", "(IIII)Z"⟩
abbrev cX5_countSolutions : ByteArray := prog_7_method_6_code
def yX5_countSolutions : MethodName := ⟨RX5, "countSolutions", "()I"⟩
abbrev cX5_findSolution : ByteArray := prog_7_method_7_code
def yX5_findSolution : MethodName := ⟨RX5, "findSolution", "(I)Z"⟩
abbrev cX5_lookFor : ByteArray := prog_7_method_8_code
def yX5_lookFor : MethodName := ⟨RX5, "lookFor", "(I)V"⟩
abbrev cX5_search : ByteArray := prog_7_method_9_code
def yX5_search : MethodName := ⟨RX5, "search", "(III)V"⟩
abbrev cX5_tryDigits : ByteArray := prog_7_method_10_code
def yX5_tryDigits : MethodName := ⟨RX5, "tryDigits", "(III)V"⟩
abbrev cX5_meet : ByteArray := prog_7_method_11_code
def yX5_meet : MethodName := ⟨RX5, "meet", "(I)V"⟩
abbrev cX5_allHoldAt : ByteArray := prog_7_method_12_code
def yX5_allHoldAt : MethodName := ⟨RX5, "allHoldAt", "(I)Z"⟩
abbrev cX5_holds : ByteArray := prog_7_method_13_code
def yX5_holds : MethodName := ⟨RX5, "holds", "(I)Z"⟩
abbrev cX5_isWithin : ByteArray := prog_7_method_14_code
def yX5_isWithin : MethodName := ⟨RX5, "isWithin", "(II)Z"⟩
abbrev cX5_coordinate : ByteArray := prog_7_method_15_code
def yX5_coordinate : MethodName := ⟨RX5, "coordinate", "(I)I"⟩
abbrev cX5_digitOf : ByteArray := prog_7_method_16_code
def yX5_digitOf : MethodName := ⟨RX5, "digitOf", "(I)I"⟩
def RX6 : String := "HillBoxes$Rules"
def TX6 : u_T := fun k => match k with
  | 0 => ("HillBoxes$Rules", "tape", "LHillBoxes$Tape;", true)
  | 1 => ("HillBoxes$Rules", "made", "I", false)
  | 2 => ("HillBoxes$Rules", "line", "I", false)
  | 3 => ("HillBoxes$Rules", "hills", "LHillBoxes$Hills;", true)
  | 4 => ("HillBoxes$Rules", "uses", "[I", true)
  | 5 => ("HillBoxes$Rules", "madeOn", "[I", true)
  | 6 => ("HillBoxes$Rules", "daysFrom", "[I", true)
  | 7 => ("HillBoxes$Rules", "codes", "[I", true)
  | 8 => ("HillBoxes$Rules", "codeLengths", "[I", true)
  | 9 => ("HillBoxes$Rules", "stack", "[I", true)
  | 10 => ("HillBoxes$Rules", "askedDay", "I", false)
  | 11 => ("HillBoxes$Rules", "askedFinder", "LHillBoxes$Finder;", false)
  | 12 => ("HillBoxes$Rules", "askedBox", "LHillBoxes$Box;", false)
  | 13 => ("HillBoxes$Rules", "askedKind", "I", false)
  | 14 => ("HillBoxes$Rules", "askedCell", "I", false)
  | _ => ("HillBoxes$Rules", "askedHour", "I", false)
def tyX6 : Nat → FieldType := fun k => match k with
  | 0 => .object "HillBoxes$Tape"
  | 1 => .int
  | 2 => .int
  | 3 => .object "HillBoxes$Hills"
  | 4 => .array .int
  | 5 => .array .int
  | 6 => .array .int
  | 7 => .array .int
  | 8 => .array .int
  | 9 => .array .int
  | 10 => .int
  | 11 => .object "HillBoxes$Finder"
  | 12 => .object "HillBoxes$Box"
  | 13 => .int
  | 14 => .int
  | _ => .int
abbrev wsX60 : List Cond := u_ws RX6 TX6 16
theorem nmX6 : ∀ a, a < 16 → ∀ b, b < 16 → a ≠ b → (TX6 a).2.1 ≠ (TX6 b).2.1 := by decide +kernel
theorem tyX6_ok : ∀ k, k < 16 → parseFieldDescriptor (TX6 k).2.2.1 = some (tyX6 k) := by decide +kernel
abbrev cX6_init : ByteArray := prog_8_method_1_code
def yX6_init : MethodName := ⟨RX6, "<init>", "(LHillBoxes$Hills;)V"⟩
abbrev cX6_isFull : ByteArray := prog_8_method_2_code
def yX6_isFull : MethodName := ⟨RX6, "isFull", "()Z"⟩
abbrev cX6_isOf : ByteArray := prog_8_method_3_code
def yX6_isOf : MethodName := ⟨RX6, "isOf", "(II)Z"⟩
abbrev cX6_make : ByteArray := prog_8_method_4_code
def yX6_make : MethodName := ⟨RX6, "make", "(II)I"⟩
abbrev cX6_ruleFor : ByteArray := prog_8_method_5_code
def yX6_ruleFor : MethodName := ⟨RX6, "ruleFor", "(III)I"⟩
abbrev cX6_askForBox : ByteArray := prog_8_method_6_code
def yX6_askForBox : MethodName := ⟨RX6, "askForBox", "(ILHillBoxes$Finder;LHillBoxes$Box;I)V"⟩
abbrev cX6_askForKind : ByteArray := prog_8_method_7_code
def yX6_askForKind : MethodName := ⟨RX6, "askForKind", "(ILHillBoxes$Finder;II)V"⟩
abbrev cX6_answer : ByteArray := prog_8_method_8_code
def yX6_answer : MethodName := ⟨RX6, "answer", "(II)I"⟩
abbrev cX6_letsHide : ByteArray := prog_8_method_9_code
def yX6_letsHide : MethodName := ⟨RX6, "letsHide", "(LHillBoxes$Finder;II)Z"⟩
abbrev cX6_shows : ByteArray := prog_8_method_10_code
def yX6_shows : MethodName := ⟨RX6, "shows", "(LHillBoxes$Finder;LHillBoxes$Box;)Z"⟩
abbrev cX6_putsDown : ByteArray := prog_8_method_11_code
def yX6_putsDown : MethodName := ⟨RX6, "putsDown", "(LHillBoxes$Box;)Z"⟩
abbrev cX6_counts : ByteArray := prog_8_method_12_code
def yX6_counts : MethodName := ⟨RX6, "counts", "(IIII)Z"⟩
abbrev cX6_whyNot : ByteArray := prog_8_method_13_code
def yX6_whyNot : MethodName := ⟨RX6, "whyNot", "(LHillBoxes$Finder;II)I"⟩
abbrev cX6_leavesLet : ByteArray := prog_8_method_14_code
def yX6_leavesLet : MethodName := ⟨RX6, "leavesLet", "(LHillBoxes$Finder;II)Z"⟩
abbrev cX6_isNearKnown : ByteArray := prog_8_method_15_code
def yX6_isNearKnown : MethodName := ⟨RX6, "isNearKnown", "(II)Z"⟩
abbrev cX6_isNearSecret : ByteArray := prog_8_method_16_code
def yX6_isNearSecret : MethodName := ⟨RX6, "isNearSecret", "(II)Z"⟩
abbrev cX6_work : ByteArray := prog_8_method_17_code
def yX6_work : MethodName := ⟨RX6, "work", "(I)I"⟩
abbrev cX6_push : ByteArray := prog_8_method_18_code
def yX6_push : MethodName := ⟨RX6, "push", "(II)I"⟩
abbrev cX6_read : ByteArray := prog_8_method_19_code
def yX6_read : MethodName := ⟨RX6, "read", "(I)I"⟩
abbrev cX6_ofTwo : ByteArray := prog_8_method_20_code
def yX6_ofTwo : MethodName := ⟨RX6, "ofTwo", "(III)I"⟩
abbrev cX6_numberOf : ByteArray := prog_8_method_21_code
def yX6_numberOf : MethodName := ⟨RX6, "numberOf", "(I)I"⟩
def RX7 : String := "HillBoxes$Shelf"
def TX7 : u_T := fun k => match k with
  | 0 => ("HillBoxes$Shelf", "body", "LHillBoxes$Body;", false)
  | 1 => ("HillBoxes$Shelf", "isRow", "Z", false)
  | 2 => ("HillBoxes$Shelf", "sort", "I", false)
  | 3 => ("HillBoxes$Shelf", "size", "I", false)
  | _ => ("HillBoxes$Shelf", "elements", "[J", true)
def tyX7 : Nat → FieldType := fun k => match k with
  | 0 => .object "HillBoxes$Body"
  | 1 => .boolean
  | 2 => .int
  | 3 => .int
  | _ => .array .long
abbrev wsX70 : List Cond := u_ws RX7 TX7 5
theorem nmX7 : ∀ a, a < 5 → ∀ b, b < 5 → a ≠ b → (TX7 a).2.1 ≠ (TX7 b).2.1 := by decide +kernel
theorem tyX7_ok : ∀ k, k < 5 → parseFieldDescriptor (TX7 k).2.2.1 = some (tyX7 k) := by decide +kernel
abbrev cX7_init : ByteArray := prog_9_method_1_code
def yX7_init : MethodName := ⟨RX7, "<init>", "()V"⟩
abbrev cX7_hold : ByteArray := prog_9_method_2_code
def yX7_hold : MethodName := ⟨RX7, "hold", "(LHillBoxes$Body;)V"⟩
abbrev cX7_holdRow : ByteArray := prog_9_method_3_code
def yX7_holdRow : MethodName := ⟨RX7, "holdRow", "(II)V"⟩
abbrev cX7_isEmpty : ByteArray := prog_9_method_4_code
def yX7_isEmpty : MethodName := ⟨RX7, "isEmpty", "()Z"⟩
abbrev cX7_isRowOf : ByteArray := prog_9_method_5_code
def yX7_isRowOf : MethodName := ⟨RX7, "isRowOf", "(I)Z"⟩
abbrev cX7_hasPlaces : ByteArray := prog_9_method_6_code
def yX7_hasPlaces : MethodName := ⟨RX7, "hasPlaces", "(JI)Z"⟩
abbrev cX7_elementOr : ByteArray := prog_9_method_7_code
def yX7_elementOr : MethodName := ⟨RX7, "elementOr", "(JJ)J"⟩
abbrev cX7_refusalOf : ByteArray := prog_9_method_8_code
def yX7_refusalOf : MethodName := ⟨RX7, "refusalOf", "(I)I"⟩
abbrev cX7_setElement : ByteArray := prog_9_method_9_code
def yX7_setElement : MethodName := ⟨RX7, "setElement", "(IJ)V"⟩
abbrev cX7_narrowed : ByteArray := prog_9_method_10_code
def yX7_narrowed : MethodName := ⟨RX7, "narrowed", "(J)J"⟩
def RX8 : String := "HillBoxes$Tape"
def TX8 : u_T := fun k => match k with
  | 0 => ("HillBoxes$Tape", "length", "I", false)
  | 1 => ("HillBoxes$Tape", "bytes", "[I", true)
  | 2 => ("HillBoxes$Tape", "tokens", "[I", true)
  | 3 => ("HillBoxes$Tape", "places", "[I", true)
  | 4 => ("HillBoxes$Tape", "values", "[I", true)
  | 5 => ("HillBoxes$Tape", "at", "I", false)
  | 6 => ("HillBoxes$Tape", "token", "I", false)
  | 7 => ("HillBoxes$Tape", "tokenNumber", "I", false)
  | 8 => ("HillBoxes$Tape", "fault", "I", false)
  | 9 => ("HillBoxes$Tape", "code", "[I", true)
  | _ => ("HillBoxes$Tape", "codeLength", "I", false)
def tyX8 : Nat → FieldType := fun k => match k with
  | 0 => .int
  | 1 => .array .int
  | 2 => .array .int
  | 3 => .array .int
  | 4 => .array .int
  | 5 => .int
  | 6 => .int
  | 7 => .int
  | 8 => .int
  | 9 => .array .int
  | _ => .int
abbrev wsX80 : List Cond := u_ws RX8 TX8 11
theorem nmX8 : ∀ a, a < 11 → ∀ b, b < 11 → a ≠ b → (TX8 a).2.1 ≠ (TX8 b).2.1 := by decide +kernel
theorem tyX8_ok : ∀ k, k < 11 → parseFieldDescriptor (TX8 k).2.2.1 = some (tyX8 k) := by decide +kernel
abbrev cX8_init : ByteArray := prog_10_method_1_code
def yX8_init : MethodName := ⟨RX8, "<init>", "()V"⟩
abbrev cX8_hasRoomFor : ByteArray := prog_10_method_2_code
def yX8_hasRoomFor : MethodName := ⟨RX8, "hasRoomFor", "(I)Z"⟩
abbrev cX8_append : ByteArray := prog_10_method_3_code
def yX8_append : MethodName := ⟨RX8, "append", "(I)V"⟩
abbrev cX8_copyCode : ByteArray := prog_10_method_4_code
def yX8_copyCode : MethodName := ⟨RX8, "copyCode", "([II)I"⟩
abbrev cX8_compile : ByteArray := prog_10_method_5_code
def yX8_compile : MethodName := ⟨RX8, "compile", "()I"⟩
abbrev cX8_blame : ByteArray := prog_10_method_6_code
def yX8_blame : MethodName := ⟨RX8, "blame", "()V"⟩
abbrev cX8_emit : ByteArray := prog_10_method_7_code
def yX8_emit : MethodName := ⟨RX8, "emit", "(I)V"⟩
abbrev cX8_readLine : ByteArray := prog_10_method_8_code
def yX8_readLine : MethodName := ⟨RX8, "readLine", "()V"⟩
abbrev cX8_expect : ByteArray := prog_10_method_9_code
def yX8_expect : MethodName := ⟨RX8, "expect", "(I)V"⟩
abbrev cX8_readEither : ByteArray := prog_10_method_10_code
def yX8_readEither : MethodName := ⟨RX8, "readEither", "(I)V"⟩
abbrev cX8_readBoth : ByteArray := prog_10_method_11_code
def yX8_readBoth : MethodName := ⟨RX8, "readBoth", "(I)V"⟩
abbrev cX8_readDenied : ByteArray := prog_10_method_12_code
def yX8_readDenied : MethodName := ⟨RX8, "readDenied", "(I)V"⟩
abbrev cX8_readSum : ByteArray := prog_10_method_13_code
def yX8_readSum : MethodName := ⟨RX8, "readSum", "(I)V"⟩
abbrev cX8_readProduct : ByteArray := prog_10_method_14_code
def yX8_readProduct : MethodName := ⟨RX8, "readProduct", "(I)V"⟩
abbrev cX8_readOne : ByteArray := prog_10_method_15_code
def yX8_readOne : MethodName := ⟨RX8, "readOne", "(I)V"⟩
abbrev cX8_mayOpen : ByteArray := prog_10_method_16_code
def yX8_mayOpen : MethodName := ⟨RX8, "mayOpen", "(I)Z"⟩
abbrev cX8_advance : ByteArray := prog_10_method_17_code
def yX8_advance : MethodName := ⟨RX8, "advance", "()V"⟩
abbrev cX8_splitIntoTokens : ByteArray := prog_10_method_18_code
def yX8_splitIntoTokens : MethodName := ⟨RX8, "splitIntoTokens", "()V"⟩
abbrev cX8_skipBlanks : ByteArray := prog_10_method_19_code
def yX8_skipBlanks : MethodName := ⟨RX8, "skipBlanks", "()V"⟩
abbrev cX8_byteAt : ByteArray := prog_10_method_20_code
def yX8_byteAt : MethodName := ⟨RX8, "byteAt", "(I)I"⟩
abbrev cX8_isLetter : ByteArray := prog_10_method_21_code
def yX8_isLetter : MethodName := ⟨RX8, "isLetter", "(I)Z"⟩
abbrev cX8_isDigit : ByteArray := prog_10_method_22_code
def yX8_isDigit : MethodName := ⟨RX8, "isDigit", "(I)Z"⟩
abbrev cX8_readNumber : ByteArray := prog_10_method_23_code
def yX8_readNumber : MethodName := ⟨RX8, "readNumber", "(I)V"⟩
abbrev cX8_readWord : ByteArray := prog_10_method_24_code
def yX8_readWord : MethodName := ⟨RX8, "readWord", "(I)V"⟩
abbrev cX8_wordNumber : ByteArray := prog_10_method_25_code
def yX8_wordNumber : MethodName := ⟨RX8, "wordNumber", "(II)I"⟩
abbrev cX8_isWord : ByteArray := prog_10_method_26_code
def yX8_isWord : MethodName := ⟨RX8, "isWord", "(III)Z"⟩
def RX9 : String := "HillBoxes$Thing"
def TX9 : u_T := fun k => match k with
  | 0 => ("HillBoxes$Body", "number", "I", true)
  | 1 => ("HillBoxes$Body", "kind", "I", true)
  | 2 => ("HillBoxes$Thing", "logs", "[I", true)
  | 3 => ("HillBoxes$Thing", "left", "[Z", true)
  | _ => ("HillBoxes$Thing", "told", "I", false)
def tyX9 : Nat → FieldType := fun k => match k with
  | 0 => .int
  | 1 => .int
  | 2 => .array .int
  | 3 => .array .boolean
  | _ => .int
abbrev wsX90 : List Cond := u_ws RX9 TX9 5
theorem nmX9 : ∀ a, a < 5 → ∀ b, b < 5 → a ≠ b → (TX9 a).2.1 ≠ (TX9 b).2.1 := by decide +kernel
theorem tyX9_ok : ∀ k, k < 5 → parseFieldDescriptor (TX9 k).2.2.1 = some (tyX9 k) := by decide +kernel
abbrev cX9_init : ByteArray := prog_11_method_1_code
def yX9_init : MethodName := ⟨RX9, "<init>", "(I)V"⟩
def RX10 : String := "HillBoxes$Walks"
def TX10 : u_T := fun k => match k with
  | 0 => ("HillBoxes$Walks", "wishes", "I", false)
  | 1 => ("HillBoxes$Walks", "walkedHours", "I", false)
  | 2 => ("HillBoxes$Walks", "walkedCount", "I", false)
  | 3 => ("HillBoxes$Walks", "walked", "[I", true)
  | 4 => ("HillBoxes$Walks", "boxes", "[LHillBoxes$Box;", true)
  | 5 => ("HillBoxes$Walks", "worths", "[I", true)
  | 6 => ("HillBoxes$Walks", "stays", "[I", true)
  | 7 => ("HillBoxes$Walks", "row", "[I", true)
  | 8 => ("HillBoxes$Walks", "rowCount", "I", false)
  | 9 => ("HillBoxes$Walks", "best", "[I", true)
  | 10 => ("HillBoxes$Walks", "bestCount", "I", false)
  | 11 => ("HillBoxes$Walks", "bestWorth", "I", false)
  | 12 => ("HillBoxes$Walks", "bestHours", "I", false)
  | 13 => ("HillBoxes$Walks", "home", "I", false)
  | 14 => ("HillBoxes$Walks", "setOutHour", "I", false)
  | _ => ("HillBoxes$Walks", "limit", "I", false)
def tyX10 : Nat → FieldType := fun k => match k with
  | 0 => .int
  | 1 => .int
  | 2 => .int
  | 3 => .array .int
  | 4 => .array (.object "HillBoxes$Box")
  | 5 => .array .int
  | 6 => .array .int
  | 7 => .array .int
  | 8 => .int
  | 9 => .array .int
  | 10 => .int
  | 11 => .int
  | 12 => .int
  | 13 => .int
  | 14 => .int
  | _ => .int
abbrev wsX100 : List Cond := u_ws RX10 TX10 16
theorem nmX10 : ∀ a, a < 16 → ∀ b, b < 16 → a ≠ b → (TX10 a).2.1 ≠ (TX10 b).2.1 := by decide +kernel
theorem tyX10_ok : ∀ k, k < 16 → parseFieldDescriptor (TX10 k).2.2.1 = some (tyX10 k) := by decide +kernel
abbrev cX10_init : ByteArray := prog_12_method_1_code
def yX10_init : MethodName := ⟨RX10, "<init>", "()V"⟩
abbrev cX10_isSetOut : ByteArray := prog_12_method_2_code
def yX10_isSetOut : MethodName := ⟨RX10, "isSetOut", "(II)Z"⟩
abbrev cX10_isWished : ByteArray := prog_12_method_3_code
def yX10_isWished : MethodName := ⟨RX10, "isWished", "(I)Z"⟩
abbrev cX10_wishFor : ByteArray := prog_12_method_4_code
def yX10_wishFor : MethodName := ⟨RX10, "wishFor", "(LHillBoxes$Box;II)I"⟩
abbrev cX10_findBest : ByteArray := prog_12_method_5_code
def yX10_findBest : MethodName := ⟨RX10, "findBest", "(II)Z"⟩
abbrev cX10_setOut : ByteArray := prog_12_method_6_code
def yX10_setOut : MethodName := ⟨RX10, "setOut", "(I)V"⟩
abbrev cX10_extend : ByteArray := prog_12_method_7_code
def yX10_extend : MethodName := ⟨RX10, "extend", "(IIIII)V"⟩
abbrev cX10_goOnBehind : ByteArray := prog_12_method_8_code
def yX10_goOnBehind : MethodName := ⟨RX10, "goOnBehind", "(IIII)V"⟩
abbrev cX10_cellOf : ByteArray := prog_12_method_9_code
def yX10_cellOf : MethodName := ⟨RX10, "cellOf", "(I)I"⟩
abbrev cX10_timeBehind : ByteArray := prog_12_method_10_code
def yX10_timeBehind : MethodName := ⟨RX10, "timeBehind", "(III)I"⟩
abbrev cX10_compare : ByteArray := prog_12_method_11_code
def yX10_compare : MethodName := ⟨RX10, "compare", "(III)V"⟩
abbrev cX10_takeBest : ByteArray := prog_12_method_12_code
def yX10_takeBest : MethodName := ⟨RX10, "takeBest", "()I"⟩
abbrev cX10_readRow : ByteArray := prog_12_method_13_code
def yX10_readRow : MethodName := ⟨RX10, "readRow", "(I)Z"⟩
abbrev cX10_hoursOfRow : ByteArray := prog_12_method_14_code
def yX10_hoursOfRow : MethodName := ⟨RX10, "hoursOfRow", "(I)I"⟩
def RX11 : String := "HillBoxes"
def TX11 : u_T := fun k => match k with
  | 0 => ("HillBoxes", "hills", "LHillBoxes$Hills;", true)
  | 1 => ("HillBoxes", "rules", "LHillBoxes$Rules;", true)
  | 2 => ("HillBoxes", "logs", "LHillBoxes$Logs;", true)
  | 3 => ("HillBoxes", "walks", "LHillBoxes$Walks;", true)
  | 4 => ("HillBoxes", "shelves", "[LHillBoxes$Shelf;", true)
  | _ => ("HillBoxes", "trace", "[I", true)
def tyX11 : Nat → FieldType := fun k => match k with
  | 0 => .object "HillBoxes$Hills"
  | 1 => .object "HillBoxes$Rules"
  | 2 => .object "HillBoxes$Logs"
  | 3 => .object "HillBoxes$Walks"
  | 4 => .array (.object "HillBoxes$Shelf")
  | _ => .array .int
abbrev wsX110 : List Cond := u_ws RX11 TX11 6
theorem nmX11 : ∀ a, a < 6 → ∀ b, b < 6 → a ≠ b → (TX11 a).2.1 ≠ (TX11 b).2.1 := by decide +kernel
theorem tyX11_ok : ∀ k, k < 6 → parseFieldDescriptor (TX11 k).2.2.1 = some (tyX11 k) := by decide +kernel
abbrev cX11_init : ByteArray := prog_1_method_1_code
def yX11_init : MethodName := ⟨RX11, "<init>", "()V"⟩
abbrev cX11_days : ByteArray := prog_1_method_2_code
def yX11_days : MethodName := ⟨RX11, "days", "(I)I"⟩
abbrev cX11_owner : ByteArray := prog_1_method_3_code
def yX11_owner : MethodName := ⟨RX11, "owner", "(II)I"⟩
abbrev cX11_body : ByteArray := prog_1_method_4_code
def yX11_body : MethodName := ⟨RX11, "body", "(I)I"⟩
abbrev cX11_finder : ByteArray := prog_1_method_5_code
def yX11_finder : MethodName := ⟨RX11, "finder", "(I)I"⟩
abbrev cX11_leaves : ByteArray := prog_1_method_6_code
def yX11_leaves : MethodName := ⟨RX11, "leaves", "(I)I"⟩
abbrev cX11_step : ByteArray := prog_1_method_7_code
def yX11_step : MethodName := ⟨RX11, "step", "(I)I"⟩
abbrev cX11_why : ByteArray := prog_1_method_8_code
def yX11_why : MethodName := ⟨RX11, "why", "(IIII)I"⟩
abbrev cX11_hide : ByteArray := prog_1_method_9_code
def yX11_hide : MethodName := ⟨RX11, "hide", "(III)I"⟩
abbrev cX11_move : ByteArray := prog_1_method_10_code
def yX11_move : MethodName := ⟨RX11, "move", "(III)I"⟩
abbrev cX11_down : ByteArray := prog_1_method_11_code
def yX11_down : MethodName := ⟨RX11, "down", "(I)I"⟩
abbrev cX11_ofBody : ByteArray := prog_1_method_12_code
def yX11_ofBody : MethodName := ⟨RX11, "ofBody", "(II)I"⟩
abbrev cX11_liesAt : ByteArray := prog_1_method_13_code
def yX11_liesAt : MethodName := ⟨RX11, "liesAt", "(III)I"⟩
abbrev cX11_feed : ByteArray := prog_1_method_14_code
def yX11_feed : MethodName := ⟨RX11, "feed", "(II)I"⟩
abbrev cX11_rule : ByteArray := prog_1_method_15_code
def yX11_rule : MethodName := ⟨RX11, "rule", "(II)I"⟩
abbrev cX11_inForce : ByteArray := prog_1_method_16_code
def yX11_inForce : MethodName := ⟨RX11, "inForce", "(III)I"⟩
abbrev cX11_says : ByteArray := prog_1_method_17_code
def yX11_says : MethodName := ⟨RX11, "says", "(IIII)I"⟩
abbrev cX11_nearest : ByteArray := prog_1_method_18_code
def yX11_nearest : MethodName := ⟨RX11, "nearest", "(II)I"⟩
abbrev cX11_riddle : ByteArray := prog_1_method_19_code
def yX11_riddle : MethodName := ⟨RX11, "riddle", "(IIII)I"⟩
abbrev cX11_solve : ByteArray := prog_1_method_20_code
def yX11_solve : MethodName := ⟨RX11, "solve", "(II)I"⟩
abbrev cX11_solved : ByteArray := prog_1_method_21_code
def yX11_solved : MethodName := ⟨RX11, "solved", "(II)I"⟩
abbrev cX11_others : ByteArray := prog_1_method_22_code
def yX11_others : MethodName := ⟨RX11, "others", "(II)J"⟩
abbrev cX11_log : ByteArray := prog_1_method_23_code
def yX11_log : MethodName := ⟨RX11, "log", "(IIII)I"⟩
abbrev cX11_paper : ByteArray := prog_1_method_24_code
def yX11_paper : MethodName := ⟨RX11, "paper", "(IIII)I"⟩
abbrev cX11_join : ByteArray := prog_1_method_25_code
def yX11_join : MethodName := ⟨RX11, "join", "(III)I"⟩
abbrev cX11_first : ByteArray := prog_1_method_26_code
def yX11_first : MethodName := ⟨RX11, "first", "(I)I"⟩
abbrev cX11_isFalse : ByteArray := prog_1_method_27_code
def yX11_isFalse : MethodName := ⟨RX11, "isFalse", "(II)I"⟩
abbrev cX11_gone : ByteArray := prog_1_method_28_code
def yX11_gone : MethodName := ⟨RX11, "gone", "(II)I"⟩
abbrev cX11_chance : ByteArray := prog_1_method_29_code
def yX11_chance : MethodName := ⟨RX11, "chance", "(I)I"⟩
abbrev cX11_tell : ByteArray := prog_1_method_30_code
def yX11_tell : MethodName := ⟨RX11, "tell", "(III)I"⟩
abbrev cX11_jump : ByteArray := prog_1_method_31_code
def yX11_jump : MethodName := ⟨RX11, "jump", "(II)I"⟩
abbrev cX11_chain : ByteArray := prog_1_method_32_code
def yX11_chain : MethodName := ⟨RX11, "chain", "(I)I"⟩
abbrev cX11_asks : ByteArray := prog_1_method_33_code
def yX11_asks : MethodName := ⟨RX11, "asks", "(II)I"⟩
abbrev cX11_taker : ByteArray := prog_1_method_34_code
def yX11_taker : MethodName := ⟨RX11, "taker", "(I)I"⟩
abbrev cX11_take : ByteArray := prog_1_method_35_code
def yX11_take : MethodName := ⟨RX11, "take", "(I)I"⟩
abbrev cX11_toPut : ByteArray := prog_1_method_36_code
def yX11_toPut : MethodName := ⟨RX11, "toPut", "(I)I"⟩
abbrev cX11_putAll : ByteArray := prog_1_method_37_code
def yX11_putAll : MethodName := ⟨RX11, "putAll", "()I"⟩
abbrev cX11_wish : ByteArray := prog_1_method_38_code
def yX11_wish : MethodName := ⟨RX11, "wish", "(III)I"⟩
abbrev cX11_walk : ByteArray := prog_1_method_39_code
def yX11_walk : MethodName := ⟨RX11, "walk", "(II)I"⟩
abbrev cX11_walked : ByteArray := prog_1_method_40_code
def yX11_walked : MethodName := ⟨RX11, "walked", "(I)I"⟩
abbrev cX11_judge : ByteArray := prog_1_method_41_code
def yX11_judge : MethodName := ⟨RX11, "judge", "(III)I"⟩
abbrev cX11_lookAt : ByteArray := prog_1_method_42_code
def yX11_lookAt : MethodName := ⟨RX11, "lookAt", "(II)I"⟩
abbrev cX11_nobody : ByteArray := prog_1_method_43_code
def yX11_nobody : MethodName := ⟨RX11, "nobody", "(I)I"⟩
abbrev cX11_rank : ByteArray := prog_1_method_44_code
def yX11_rank : MethodName := ⟨RX11, "rank", "(IIII)I"⟩
abbrev cX11_act : ByteArray := prog_1_method_45_code
def yX11_act : MethodName := ⟨RX11, "act", "(III)I"⟩
abbrev cX11_trace : ByteArray := prog_1_method_46_code
def yX11_trace : MethodName := ⟨RX11, "trace", "(I)I"⟩
abbrev cX11_keep : ByteArray := prog_1_method_47_code
def yX11_keep : MethodName := ⟨RX11, "keep", "(II)I"⟩
abbrev cX11_row : ByteArray := prog_1_method_48_code
def yX11_row : MethodName := ⟨RX11, "row", "(III)I"⟩
abbrev cX11_put : ByteArray := prog_1_method_49_code
def yX11_put : MethodName := ⟨RX11, "put", "(IIJ)I"⟩
abbrev cX11_element : ByteArray := prog_1_method_50_code
def yX11_element : MethodName := ⟨RX11, "element", "(II)J"⟩
abbrev cX11_shift : ByteArray := prog_1_method_51_code
def yX11_shift : MethodName := ⟨RX11, "shift", "(IIIII)I"⟩
abbrev cX11_taken : ByteArray := prog_1_method_52_code
def yX11_taken : MethodName := ⟨RX11, "taken", "(II)I"⟩
abbrev cX11_count : ByteArray := prog_1_method_53_code
def yX11_count : MethodName := ⟨RX11, "count", "(I)I"⟩
abbrev cX11_isCell : ByteArray := prog_1_method_54_code
def yX11_isCell : MethodName := ⟨RX11, "isCell", "(I)Z"⟩
abbrev cX11_isDay : ByteArray := prog_1_method_55_code
def yX11_isDay : MethodName := ⟨RX11, "isDay", "(I)Z"⟩
abbrev cX11_isUse : ByteArray := prog_1_method_56_code
def yX11_isUse : MethodName := ⟨RX11, "isUse", "(I)Z"⟩
abbrev cX11_isKindOfBox : ByteArray := prog_1_method_57_code
def yX11_isKindOfBox : MethodName := ⟨RX11, "isKindOfBox", "(I)Z"⟩
abbrev cX11_far : ByteArray := prog_1_method_58_code
def yX11_far : MethodName := ⟨RX11, "far", "(II)I"⟩
abbrev cX11_hoursBetween : ByteArray := prog_1_method_59_code
def yX11_hoursBetween : MethodName := ⟨RX11, "hoursBetween", "(II)I"⟩
abbrev cX11_isNightHour : ByteArray := prog_1_method_60_code
def yX11_isNightHour : MethodName := ⟨RX11, "isNightHour", "(I)Z"⟩
abbrev cX11_mayBeAsked : ByteArray := prog_1_method_61_code
def yX11_mayBeAsked : MethodName := ⟨RX11, "mayBeAsked", "(II)Z"⟩
abbrev cX11_asToldToTheAsker : ByteArray := prog_1_method_62_code
def yX11_asToldToTheAsker : MethodName := ⟨RX11, "asToldToTheAsker", "(I)I"⟩
abbrev cX11_canSay : ByteArray := prog_1_method_63_code
def yX11_canSay : MethodName := ⟨RX11, "canSay", "(III)Z"⟩
abbrev cX11_ofFinder : ByteArray := prog_1_method_64_code
def yX11_ofFinder : MethodName := ⟨RX11, "ofFinder", "(LHillBoxes$Finder;I)I"⟩
abbrev cX11_ofBox : ByteArray := prog_1_method_65_code
def yX11_ofBox : MethodName := ⟨RX11, "ofBox", "(LHillBoxes$Box;I)I"⟩
abbrev cX11_ofThing : ByteArray := prog_1_method_66_code
def yX11_ofThing : MethodName := ⟨RX11, "ofThing", "(LHillBoxes$Thing;I)I"⟩
abbrev cX11_riddleOf : ByteArray := prog_1_method_67_code
def yX11_riddleOf : MethodName := ⟨RX11, "riddleOf", "(I)LHillBoxes$Riddle;"⟩
abbrev cX11_shelfAt : ByteArray := prog_1_method_68_code
def yX11_shelfAt : MethodName := ⟨RX11, "shelfAt", "(I)LHillBoxes$Shelf;"⟩
abbrev cX11_isToPut : ByteArray := prog_1_method_69_code
def yX11_isToPut : MethodName := ⟨RX11, "isToPut", "(LHillBoxes$Box;)Z"⟩
abbrev cX11_takerOf : ByteArray := prog_1_method_70_code
def yX11_takerOf : MethodName := ⟨RX11, "takerOf", "(LHillBoxes$Box;)I"⟩
abbrev cX11_countBoxes : ByteArray := prog_1_method_71_code
def yX11_countBoxes : MethodName := ⟨RX11, "countBoxes", "(Z)I"⟩
abbrev cX11_countFinders : ByteArray := prog_1_method_72_code
def yX11_countFinders : MethodName := ⟨RX11, "countFinders", "(Z)I"⟩
abbrev cX11_boundOf : ByteArray := prog_1_method_73_code
def yX11_boundOf : MethodName := ⟨RX11, "boundOf", "(III)I"⟩
abbrev cX11_waysOfAtMost : ByteArray := prog_1_method_74_code
def yX11_waysOfAtMost : MethodName := ⟨RX11, "waysOfAtMost", "(IIII)J"⟩
abbrev cX11_ways : ByteArray := prog_1_method_75_code
def yX11_ways : MethodName := ⟨RX11, "ways", "(II)J"⟩
def RX12 : String := "HillBoxesModel"
def TX12 : u_T := fun k => match k with
  | 0 => ("HillBoxesModel", "code", "I", false)
  | 1 => ("HillBoxesModel", "today", "I", false)
  | 2 => ("HillBoxesModel", "ownerLess", "[I", true)
  | 3 => ("HillBoxesModel", "bodies", "I", false)
  | 4 => ("HillBoxesModel", "kind", "[I", true)
  | 5 => ("HillBoxesModel", "firstCell", "[I", true)
  | 6 => ("HillBoxesModel", "began", "[I", true)
  | 7 => ("HillBoxesModel", "ended", "[I", true)
  | 8 => ("HillBoxesModel", "keeper", "[I", true)
  | 9 => ("HillBoxesModel", "stepMany", "[I", true)
  | 10 => ("HillBoxesModel", "stepsOf", "[I", true)
  | 11 => ("HillBoxesModel", "steps", "I", false)
  | 12 => ("HillBoxesModel", "step", "[I", true)
  | 13 => ("HillBoxesModel", "moves", "I", false)
  | 14 => ("HillBoxesModel", "moveBox", "[I", true)
  | 15 => ("HillBoxesModel", "moveCell", "[I", true)
  | 16 => ("HillBoxesModel", "moveAt", "[I", true)
  | 17 => ("HillBoxesModel", "logs", "I", false)
  | 18 => ("HillBoxesModel", "logFinder", "[I", true)
  | 19 => ("HillBoxesModel", "logBox", "[I", true)
  | 20 => ("HillBoxesModel", "logAt", "[I", true)
  | 21 => ("HillBoxesModel", "logFound", "[Z", true)
  | 22 => ("HillBoxesModel", "paperMany", "[I", true)
  | 23 => ("HillBoxesModel", "paper", "[S", true)
  | 24 => ("HillBoxesModel", "tape", "[B", true)
  | 25 => ("HillBoxesModel", "taped", "I", false)
  | 26 => ("HillBoxesModel", "from", "I", false)
  | 27 => ("HillBoxesModel", "upTo", "I", false)
  | 28 => ("HillBoxesModel", "token", "I", false)
  | 29 => ("HillBoxesModel", "value", "I", false)
  | 30 => ("HillBoxesModel", "fault", "I", false)
  | 31 => ("HillBoxesModel", "open", "I", false)
  | 32 => ("HillBoxesModel", "laid", "I", false)
  | 33 => ("HillBoxesModel", "texts", "I", false)
  | 34 => ("HillBoxesModel", "textUse", "[I", true)
  | 35 => ("HillBoxesModel", "textMade", "[I", true)
  | 36 => ("HillBoxesModel", "textFrom", "[I", true)
  | 37 => ("HillBoxesModel", "lineMany", "[I", true)
  | 38 => ("HillBoxesModel", "lineSort", "[B", true)
  | 39 => ("HillBoxesModel", "testEnd", "[S", true)
  | 40 => ("HillBoxesModel", "lineEnd", "[S", true)
  | 41 => ("HillBoxesModel", "act", "[B", true)
  | 42 => ("HillBoxesModel", "with", "[I", true)
  | 43 => ("HillBoxesModel", "facts", "[I", true)
  | 44 => ("HillBoxesModel", "pile", "[I", true)
  | 45 => ("HillBoxesModel", "lineIs", "I", false)
  | 46 => ("HillBoxesModel", "tellMany", "[B", true)
  | 47 => ("HillBoxesModel", "tellSort", "[B", true)
  | 48 => ("HillBoxesModel", "tellOne", "[B", true)
  | 49 => ("HillBoxesModel", "tellOther", "[B", true)
  | 50 => ("HillBoxesModel", "tellIs", "[B", true)
  | 51 => ("HillBoxesModel", "digitOf", "[I", true)
  | 52 => ("HillBoxesModel", "riddleOf", "I", false)
  | 53 => ("HillBoxesModel", "lettersIn", "I", false)
  | 54 => ("HillBoxesModel", "solutions", "I", false)
  | 55 => ("HillBoxesModel", "sought", "I", false)
  | 56 => ("HillBoxesModel", "soughtDigits", "I", false)
  | 57 => ("HillBoxesModel", "soughtCell", "I", false)
  | 58 => ("HillBoxesModel", "otherBits", "J", false)
  | 59 => ("HillBoxesModel", "tellings", "[I", true)
  | 60 => ("HillBoxesModel", "tellLog", "[S", true)
  | 61 => ("HillBoxesModel", "tellLeft", "[Z", true)
  | 62 => ("HillBoxesModel", "askMany", "[B", true)
  | 63 => ("HillBoxesModel", "asker", "[S", true)
  | 64 => ("HillBoxesModel", "goesDown", "[Z", true)
  | 65 => ("HillBoxesModel", "wishes", "I", false)
  | 66 => ("HillBoxesModel", "wishBox", "[I", true)
  | 67 => ("HillBoxesModel", "wishWorth", "[I", true)
  | 68 => ("HillBoxesModel", "wishHours", "[I", true)
  | 69 => ("HillBoxesModel", "row", "[I", true)
  | 70 => ("HillBoxesModel", "bestRow", "[I", true)
  | 71 => ("HillBoxesModel", "bestWorth", "I", false)
  | 72 => ("HillBoxesModel", "bestHours", "I", false)
  | 73 => ("HillBoxesModel", "bestMany", "I", false)
  | 74 => ("HillBoxesModel", "wentTo", "[I", true)
  | 75 => ("HillBoxesModel", "wentMany", "I", false)
  | 76 => ("HillBoxesModel", "wentHours", "I", false)
  | 77 => ("HillBoxesModel", "walkFrom", "I", false)
  | 78 => ("HillBoxesModel", "walkStart", "I", false)
  | 79 => ("HillBoxesModel", "walkMost", "I", false)
  | 80 => ("HillBoxesModel", "looked", "[B", true)
  | 81 => ("HillBoxesModel", "ways", "[J", true)
  | 82 => ("HillBoxesModel", "findsBy", "[I", true)
  | 83 => ("HillBoxesModel", "countsNow", "[Z", true)
  | 84 => ("HillBoxesModel", "traces", "I", false)
  | 85 => ("HillBoxesModel", "traced", "[I", true)
  | 86 => ("HillBoxesModel", "holds", "[I", true)
  | 87 => ("HillBoxesModel", "size", "[I", true)
  | 88 => ("HillBoxesModel", "elements", "[J", true)
  | _ => ("HillBoxesModel", "shifted", "[J", true)
def tyX12 : Nat → FieldType := fun k => match k with
  | 0 => .int
  | 1 => .int
  | 2 => .array .int
  | 3 => .int
  | 4 => .array .int
  | 5 => .array .int
  | 6 => .array .int
  | 7 => .array .int
  | 8 => .array .int
  | 9 => .array .int
  | 10 => .array .int
  | 11 => .int
  | 12 => .array .int
  | 13 => .int
  | 14 => .array .int
  | 15 => .array .int
  | 16 => .array .int
  | 17 => .int
  | 18 => .array .int
  | 19 => .array .int
  | 20 => .array .int
  | 21 => .array .boolean
  | 22 => .array .int
  | 23 => .array .short
  | 24 => .array .byte
  | 25 => .int
  | 26 => .int
  | 27 => .int
  | 28 => .int
  | 29 => .int
  | 30 => .int
  | 31 => .int
  | 32 => .int
  | 33 => .int
  | 34 => .array .int
  | 35 => .array .int
  | 36 => .array .int
  | 37 => .array .int
  | 38 => .array .byte
  | 39 => .array .short
  | 40 => .array .short
  | 41 => .array .byte
  | 42 => .array .int
  | 43 => .array .int
  | 44 => .array .int
  | 45 => .int
  | 46 => .array .byte
  | 47 => .array .byte
  | 48 => .array .byte
  | 49 => .array .byte
  | 50 => .array .byte
  | 51 => .array .int
  | 52 => .int
  | 53 => .int
  | 54 => .int
  | 55 => .int
  | 56 => .int
  | 57 => .int
  | 58 => .long
  | 59 => .array .int
  | 60 => .array .short
  | 61 => .array .boolean
  | 62 => .array .byte
  | 63 => .array .short
  | 64 => .array .boolean
  | 65 => .int
  | 66 => .array .int
  | 67 => .array .int
  | 68 => .array .int
  | 69 => .array .int
  | 70 => .array .int
  | 71 => .int
  | 72 => .int
  | 73 => .int
  | 74 => .array .int
  | 75 => .int
  | 76 => .int
  | 77 => .int
  | 78 => .int
  | 79 => .int
  | 80 => .array .byte
  | 81 => .array .long
  | 82 => .array .int
  | 83 => .array .boolean
  | 84 => .int
  | 85 => .array .int
  | 86 => .array .int
  | 87 => .array .int
  | 88 => .array .long
  | _ => .array .long
abbrev wsX120 : List Cond := u_ws RX12 TX12 90
theorem nmX12 : ∀ a, a < 90 → ∀ b, b < 90 → a ≠ b → (TX12 a).2.1 ≠ (TX12 b).2.1 := by decide +kernel
theorem tyX12_ok : ∀ k, k < 90 → parseFieldDescriptor (TX12 k).2.2.1 = some (tyX12 k) := by decide +kernel
abbrev cX12_init : ByteArray := prog_14_method_1_code
def yX12_init : MethodName := ⟨RX12, "<init>", "()V"⟩
abbrev cX12_in : ByteArray := prog_14_method_3_code
def yX12_in : MethodName := ⟨RX12, "in", "(III)Z"⟩
abbrev cX12_isDay : ByteArray := prog_14_method_4_code
def yX12_isDay : MethodName := ⟨RX12, "isDay", "(I)Z"⟩
abbrev cX12_isCell : ByteArray := prog_14_method_5_code
def yX12_isCell : MethodName := ⟨RX12, "isCell", "(I)Z"⟩
abbrev cX12_sizeOf : ByteArray := prog_14_method_6_code
def yX12_sizeOf : MethodName := ⟨RX12, "sizeOf", "(I)I"⟩
abbrev cX12_farOf : ByteArray := prog_14_method_7_code
def yX12_farOf : MethodName := ⟨RX12, "farOf", "(II)I"⟩
abbrev cX12_days : ByteArray := prog_14_method_8_code
def yX12_days : MethodName := ⟨RX12, "days", "(I)I"⟩
abbrev cX12_ownerOf : ByteArray := prog_14_method_9_code
def yX12_ownerOf : MethodName := ⟨RX12, "ownerOf", "(I)I"⟩
abbrev cX12_owner : ByteArray := prog_14_method_10_code
def yX12_owner : MethodName := ⟨RX12, "owner", "(II)I"⟩
abbrev cX12_isBody : ByteArray := prog_14_method_11_code
def yX12_isBody : MethodName := ⟨RX12, "isBody", "(I)Z"⟩
abbrev cX12_isUnder : ByteArray := prog_14_method_12_code
def yX12_isUnder : MethodName := ⟨RX12, "isUnder", "(II)Z"⟩
abbrev cX12_isBox : ByteArray := prog_14_method_13_code
def yX12_isBox : MethodName := ⟨RX12, "isBox", "(I)Z"⟩
abbrev cX12_isRiddle : ByteArray := prog_14_method_14_code
def yX12_isRiddle : MethodName := ⟨RX12, "isRiddle", "(I)Z"⟩
abbrev cX12_isFinder : ByteArray := prog_14_method_15_code
def yX12_isFinder : MethodName := ⟨RX12, "isFinder", "(I)Z"⟩
abbrev cX12_isThing : ByteArray := prog_14_method_16_code
def yX12_isThing : MethodName := ⟨RX12, "isThing", "(I)Z"⟩
abbrev cX12_isOut : ByteArray := prog_14_method_17_code
def yX12_isOut : MethodName := ⟨RX12, "isOut", "(I)Z"⟩
abbrev cX12_add : ByteArray := prog_14_method_18_code
def yX12_add : MethodName := ⟨RX12, "add", "(I)I"⟩
abbrev cX12_body : ByteArray := prog_14_method_19_code
def yX12_body : MethodName := ⟨RX12, "body", "(I)I"⟩
abbrev cX12_finder : ByteArray := prog_14_method_20_code
def yX12_finder : MethodName := ⟨RX12, "finder", "(I)I"⟩
abbrev cX12_leaves : ByteArray := prog_14_method_21_code
def yX12_leaves : MethodName := ⟨RX12, "leaves", "(I)I"⟩
abbrev cX12_step : ByteArray := prog_14_method_22_code
def yX12_step : MethodName := ⟨RX12, "step", "(I)I"⟩
abbrev cX12_cellNow : ByteArray := prog_14_method_23_code
def yX12_cellNow : MethodName := ⟨RX12, "cellNow", "(I)I"⟩
abbrev cX12_liesNow : ByteArray := prog_14_method_24_code
def yX12_liesNow : MethodName := ⟨RX12, "liesNow", "(I)I"⟩
abbrev cX12_liesAtMoment : ByteArray := prog_14_method_25_code
def yX12_liesAtMoment : MethodName := ⟨RX12, "liesAtMoment", "(II)I"⟩
abbrev cX12_liesAt : ByteArray := prog_14_method_26_code
def yX12_liesAt : MethodName := ⟨RX12, "liesAt", "(III)I"⟩
abbrev cX12_move : ByteArray := prog_14_method_27_code
def yX12_move : MethodName := ⟨RX12, "move", "(III)I"⟩
abbrev cX12_down : ByteArray := prog_14_method_28_code
def yX12_down : MethodName := ⟨RX12, "down", "(I)I"⟩
abbrev cX12_ownOf : ByteArray := prog_14_method_29_code
def yX12_ownOf : MethodName := ⟨RX12, "ownOf", "(I)I"⟩
abbrev cX12_ofBody : ByteArray := prog_14_method_30_code
def yX12_ofBody : MethodName := ⟨RX12, "ofBody", "(II)I"⟩
abbrev cX12_isBehind : ByteArray := prog_14_method_31_code
def yX12_isBehind : MethodName := ⟨RX12, "isBehind", "(II)Z"⟩
abbrev cX12_findsOf : ByteArray := prog_14_method_32_code
def yX12_findsOf : MethodName := ⟨RX12, "findsOf", "(I)I"⟩
abbrev cX12_latestFound : ByteArray := prog_14_method_33_code
def yX12_latestFound : MethodName := ⟨RX12, "latestFound", "(I)I"⟩
abbrev cX12_missesOf : ByteArray := prog_14_method_34_code
def yX12_missesOf : MethodName := ⟨RX12, "missesOf", "(I)I"⟩
abbrev cX12_log : ByteArray := prog_14_method_35_code
def yX12_log : MethodName := ⟨RX12, "log", "(IIII)I"⟩
abbrev cX12_paper : ByteArray := prog_14_method_36_code
def yX12_paper : MethodName := ⟨RX12, "paper", "(IIII)I"⟩
abbrev cX12_isOnPaper : ByteArray := prog_14_method_37_code
def yX12_isOnPaper : MethodName := ⟨RX12, "isOnPaper", "(II)Z"⟩
abbrev cX12_hasFound : ByteArray := prog_14_method_38_code
def yX12_hasFound : MethodName := ⟨RX12, "hasFound", "(II)Z"⟩
abbrev cX12_isJoined : ByteArray := prog_14_method_39_code
def yX12_isJoined : MethodName := ⟨RX12, "isJoined", "(III)Z"⟩
abbrev cX12_join : ByteArray := prog_14_method_40_code
def yX12_join : MethodName := ⟨RX12, "join", "(III)I"⟩
abbrev cX12_logCounts : ByteArray := prog_14_method_41_code
def yX12_logCounts : MethodName := ⟨RX12, "logCounts", "(II)Z"⟩
abbrev cX12_first : ByteArray := prog_14_method_42_code
def yX12_first : MethodName := ⟨RX12, "first", "(I)I"⟩
abbrev cX12_clash : ByteArray := prog_14_method_43_code
def yX12_clash : MethodName := ⟨RX12, "clash", "(I)I"⟩
abbrev cX12_nextLog : ByteArray := prog_14_method_44_code
def yX12_nextLog : MethodName := ⟨RX12, "nextLog", "(IZ)I"⟩
abbrev cX12_falseOf : ByteArray := prog_14_method_45_code
def yX12_falseOf : MethodName := ⟨RX12, "falseOf", "(I)I"⟩
abbrev cX12_isLog : ByteArray := prog_14_method_46_code
def yX12_isLog : MethodName := ⟨RX12, "isLog", "(I)Z"⟩
abbrev cX12_isFalse : ByteArray := prog_14_method_47_code
def yX12_isFalse : MethodName := ⟨RX12, "isFalse", "(II)I"⟩
abbrev cX12_gone : ByteArray := prog_14_method_48_code
def yX12_gone : MethodName := ⟨RX12, "gone", "(II)I"⟩
abbrev cX12_foundBy : ByteArray := prog_14_method_49_code
def yX12_foundBy : MethodName := ⟨RX12, "foundBy", "(I)I"⟩
abbrev cX12_chance : ByteArray := prog_14_method_50_code
def yX12_chance : MethodName := ⟨RX12, "chance", "(I)I"⟩
abbrev cX12_feed : ByteArray := prog_14_method_51_code
def yX12_feed : MethodName := ⟨RX12, "feed", "(II)I"⟩
abbrev cX12_isLetter : ByteArray := prog_14_method_52_code
def yX12_isLetter : MethodName := ⟨RX12, "isLetter", "(I)Z"⟩
abbrev cX12_isDigit : ByteArray := prog_14_method_53_code
def yX12_isDigit : MethodName := ⟨RX12, "isDigit", "(I)Z"⟩
abbrev cX12_isSign : ByteArray := prog_14_method_54_code
def yX12_isSign : MethodName := ⟨RX12, "isSign", "(I)Z"⟩
abbrev cX12_nextToken : ByteArray := prog_14_method_55_code
def yX12_nextToken : MethodName := ⟨RX12, "nextToken", "()V"⟩
abbrev cX12_isWord : ByteArray := prog_14_method_56_code
def yX12_isWord : MethodName := ⟨RX12, "isWord", "(J)Z"⟩
abbrev cX12_wrong : ByteArray := prog_14_method_57_code
def yX12_wrong : MethodName := ⟨RX12, "wrong", "()V"⟩
abbrev cX12_lay : ByteArray := prog_14_method_58_code
def yX12_lay : MethodName := ⟨RX12, "lay", "(II)V"⟩
abbrev cX12_opens : ByteArray := prog_14_method_59_code
def yX12_opens : MethodName := ⟨RX12, "opens", "()Z"⟩
abbrev cX12_nameHere : ByteArray := prog_14_method_60_code
def yX12_nameHere : MethodName := ⟨RX12, "nameHere", "()I"⟩
abbrev cX12_operand : ByteArray := prog_14_method_61_code
def yX12_operand : MethodName := ⟨RX12, "operand", "()V"⟩
abbrev cX12_product : ByteArray := prog_14_method_62_code
def yX12_product : MethodName := ⟨RX12, "product", "()V"⟩
abbrev cX12_sum : ByteArray := prog_14_method_63_code
def yX12_sum : MethodName := ⟨RX12, "sum", "()V"⟩
abbrev cX12_compared : ByteArray := prog_14_method_64_code
def yX12_compared : MethodName := ⟨RX12, "compared", "()V"⟩
abbrev cX12_both : ByteArray := prog_14_method_65_code
def yX12_both : MethodName := ⟨RX12, "both", "()V"⟩
abbrev cX12_either : ByteArray := prog_14_method_66_code
def yX12_either : MethodName := ⟨RX12, "either", "()V"⟩
abbrev cX12_line : ByteArray := prog_14_method_67_code
def yX12_line : MethodName := ⟨RX12, "line", "()V"⟩
abbrev cX12_isUse : ByteArray := prog_14_method_68_code
def yX12_isUse : MethodName := ⟨RX12, "isUse", "(I)Z"⟩
abbrev cX12_rule : ByteArray := prog_14_method_69_code
def yX12_rule : MethodName := ⟨RX12, "rule", "(II)I"⟩
abbrev cX12_forceOf : ByteArray := prog_14_method_70_code
def yX12_forceOf : MethodName := ⟨RX12, "forceOf", "(III)I"⟩
abbrev cX12_inForce : ByteArray := prog_14_method_71_code
def yX12_inForce : MethodName := ⟨RX12, "inForce", "(III)I"⟩
abbrev cX12_twoOf : ByteArray := prog_14_method_72_code
def yX12_twoOf : MethodName := ⟨RX12, "twoOf", "(III)I"⟩
abbrev cX12_worked : ByteArray := prog_14_method_73_code
def yX12_worked : MethodName := ⟨RX12, "worked", "(III)I"⟩
abbrev cX12_lineGives : ByteArray := prog_14_method_74_code
def yX12_lineGives : MethodName := ⟨RX12, "lineGives", "(I)I"⟩
abbrev cX12_lawBy : ByteArray := prog_14_method_75_code
def yX12_lawBy : MethodName := ⟨RX12, "lawBy", "(IIII)I"⟩
abbrev cX12_findDay : ByteArray := prog_14_method_76_code
def yX12_findDay : MethodName := ⟨RX12, "findDay", "(I)V"⟩
abbrev cX12_findFinder : ByteArray := prog_14_method_77_code
def yX12_findFinder : MethodName := ⟨RX12, "findFinder", "(II)V"⟩
abbrev cX12_findBox : ByteArray := prog_14_method_78_code
def yX12_findBox : MethodName := ⟨RX12, "findBox", "(II)V"⟩
abbrev cX12_bothOf : ByteArray := prog_14_method_79_code
def yX12_bothOf : MethodName := ⟨RX12, "bothOf", "(II)V"⟩
abbrev cX12_nearNow : ByteArray := prog_14_method_80_code
def yX12_nearNow : MethodName := ⟨RX12, "nearNow", "()I"⟩
abbrev cX12_hideBy : ByteArray := prog_14_method_81_code
def yX12_hideBy : MethodName := ⟨RX12, "hideBy", "(III)I"⟩
abbrev cX12_downOf : ByteArray := prog_14_method_82_code
def yX12_downOf : MethodName := ⟨RX12, "downOf", "(I)I"⟩
abbrev cX12_shownTo : ByteArray := prog_14_method_83_code
def yX12_shownTo : MethodName := ⟨RX12, "shownTo", "(II)I"⟩
abbrev cX12_says : ByteArray := prog_14_method_84_code
def yX12_says : MethodName := ⟨RX12, "says", "(IIII)I"⟩
abbrev cX12_nearest : ByteArray := prog_14_method_85_code
def yX12_nearest : MethodName := ⟨RX12, "nearest", "(II)I"⟩
abbrev cX12_mayLeave : ByteArray := prog_14_method_86_code
def yX12_mayLeave : MethodName := ⟨RX12, "mayLeave", "(III)Z"⟩
abbrev cX12_whyNot : ByteArray := prog_14_method_87_code
def yX12_whyNot : MethodName := ⟨RX12, "whyNot", "(III)I"⟩
abbrev cX12_canAsk : ByteArray := prog_14_method_88_code
def yX12_canAsk : MethodName := ⟨RX12, "canAsk", "(III)Z"⟩
abbrev cX12_why : ByteArray := prog_14_method_89_code
def yX12_why : MethodName := ⟨RX12, "why", "(IIII)I"⟩
abbrev cX12_hide : ByteArray := prog_14_method_90_code
def yX12_hide : MethodName := ⟨RX12, "hide", "(III)I"⟩
abbrev cX12_isTelling : ByteArray := prog_14_method_91_code
def yX12_isTelling : MethodName := ⟨RX12, "isTelling", "(IIII)Z"⟩
abbrev cX12_riddle : ByteArray := prog_14_method_92_code
def yX12_riddle : MethodName := ⟨RX12, "riddle", "(IIII)I"⟩
abbrev cX12_placeTold : ByteArray := prog_14_method_93_code
def yX12_placeTold : MethodName := ⟨RX12, "placeTold", "(II)I"⟩
abbrev cX12_placeIs : ByteArray := prog_14_method_94_code
def yX12_placeIs : MethodName := ⟨RX12, "placeIs", "(I)I"⟩
abbrev cX12_findLetters : ByteArray := prog_14_method_95_code
def yX12_findLetters : MethodName := ⟨RX12, "findLetters", "(I)V"⟩
abbrev cX12_holdsNow : ByteArray := prog_14_method_96_code
def yX12_holdsNow : MethodName := ⟨RX12, "holdsNow", "(I)Z"⟩
abbrev cX12_isSolved : ByteArray := prog_14_method_97_code
def yX12_isSolved : MethodName := ⟨RX12, "isSolved", "()Z"⟩
abbrev cX12_solveOn : ByteArray := prog_14_method_98_code
def yX12_solveOn : MethodName := ⟨RX12, "solveOn", "(II)V"⟩
abbrev cX12_canSolve : ByteArray := prog_14_method_99_code
def yX12_canSolve : MethodName := ⟨RX12, "canSolve", "(I)Z"⟩
abbrev cX12_solveAll : ByteArray := prog_14_method_100_code
def yX12_solveAll : MethodName := ⟨RX12, "solveAll", "(II)V"⟩
abbrev cX12_solve : ByteArray := prog_14_method_101_code
def yX12_solve : MethodName := ⟨RX12, "solve", "(II)I"⟩
abbrev cX12_solved : ByteArray := prog_14_method_102_code
def yX12_solved : MethodName := ⟨RX12, "solved", "(II)I"⟩
abbrev cX12_others : ByteArray := prog_14_method_103_code
def yX12_others : MethodName := ⟨RX12, "others", "(II)J"⟩
abbrev cX12_whereOf : ByteArray := prog_14_method_104_code
def yX12_whereOf : MethodName := ⟨RX12, "whereOf", "(II)I"⟩
abbrev cX12_tell : ByteArray := prog_14_method_105_code
def yX12_tell : MethodName := ⟨RX12, "tell", "(III)I"⟩
abbrev cX12_isJump : ByteArray := prog_14_method_106_code
def yX12_isJump : MethodName := ⟨RX12, "isJump", "(II)Z"⟩
abbrev cX12_jump : ByteArray := prog_14_method_107_code
def yX12_jump : MethodName := ⟨RX12, "jump", "(II)I"⟩
abbrev cX12_chain : ByteArray := prog_14_method_108_code
def yX12_chain : MethodName := ⟨RX12, "chain", "(I)I"⟩
abbrev cX12_asks : ByteArray := prog_14_method_109_code
def yX12_asks : MethodName := ⟨RX12, "asks", "(II)I"⟩
abbrev cX12_takerOf : ByteArray := prog_14_method_110_code
def yX12_takerOf : MethodName := ⟨RX12, "takerOf", "(I)I"⟩
abbrev cX12_taker : ByteArray := prog_14_method_111_code
def yX12_taker : MethodName := ⟨RX12, "taker", "(I)I"⟩
abbrev cX12_take : ByteArray := prog_14_method_112_code
def yX12_take : MethodName := ⟨RX12, "take", "(I)I"⟩
abbrev cX12_toPut : ByteArray := prog_14_method_113_code
def yX12_toPut : MethodName := ⟨RX12, "toPut", "(I)I"⟩
abbrev cX12_putAll : ByteArray := prog_14_method_114_code
def yX12_putAll : MethodName := ⟨RX12, "putAll", "()I"⟩
abbrev cX12_wish : ByteArray := prog_14_method_115_code
def yX12_wish : MethodName := ⟨RX12, "wish", "(III)I"⟩
abbrev cX12_hoursFor : ByteArray := prog_14_method_116_code
def yX12_hoursFor : MethodName := ⟨RX12, "hoursFor", "(II)I"⟩
abbrev cX12_hourBehind : ByteArray := prog_14_method_117_code
def yX12_hourBehind : MethodName := ⟨RX12, "hourBehind", "(III)I"⟩
abbrev cX12_walkOn : ByteArray := prog_14_method_118_code
def yX12_walkOn : MethodName := ⟨RX12, "walkOn", "(IIIII)V"⟩
abbrev cX12_isWalk : ByteArray := prog_14_method_119_code
def yX12_isWalk : MethodName := ⟨RX12, "isWalk", "(II)Z"⟩
abbrev cX12_begin : ByteArray := prog_14_method_120_code
def yX12_begin : MethodName := ⟨RX12, "begin", "(II)V"⟩
abbrev cX12_walk : ByteArray := prog_14_method_121_code
def yX12_walk : MethodName := ⟨RX12, "walk", "(II)I"⟩
abbrev cX12_walked : ByteArray := prog_14_method_122_code
def yX12_walked : MethodName := ⟨RX12, "walked", "(I)I"⟩
abbrev cX12_judge : ByteArray := prog_14_method_123_code
def yX12_judge : MethodName := ⟨RX12, "judge", "(III)I"⟩
abbrev cX12_isUnfound : ByteArray := prog_14_method_124_code
def yX12_isUnfound : MethodName := ⟨RX12, "isUnfound", "(I)Z"⟩
abbrev cX12_lookAt : ByteArray := prog_14_method_125_code
def yX12_lookAt : MethodName := ⟨RX12, "lookAt", "(II)I"⟩
abbrev cX12_findWays : ByteArray := prog_14_method_126_code
def yX12_findWays : MethodName := ⟨RX12, "findWays", "()V"⟩
abbrev cX12_boundOf : ByteArray := prog_14_method_127_code
def yX12_boundOf : MethodName := ⟨RX12, "boundOf", "(III)I"⟩
abbrev cX12_nobody : ByteArray := prog_14_method_128_code
def yX12_nobody : MethodName := ⟨RX12, "nobody", "(I)I"⟩
abbrev cX12_findRanks : ByteArray := prog_14_method_129_code
def yX12_findRanks : MethodName := ⟨RX12, "findRanks", "(II)V"⟩
abbrev cX12_rank : ByteArray := prog_14_method_130_code
def yX12_rank : MethodName := ⟨RX12, "rank", "(IIII)I"⟩
abbrev cX12_ran : ByteArray := prog_14_method_131_code
def yX12_ran : MethodName := ⟨RX12, "ran", "(I)V"⟩
abbrev cX12_plainHides : ByteArray := prog_14_method_132_code
def yX12_plainHides : MethodName := ⟨RX12, "plainHides", "(II)I"⟩
abbrev cX12_boxHides : ByteArray := prog_14_method_133_code
def yX12_boxHides : MethodName := ⟨RX12, "boxHides", "(II)I"⟩
abbrev cX12_hides : ByteArray := prog_14_method_134_code
def yX12_hides : MethodName := ⟨RX12, "hides", "(II)I"⟩
abbrev cX12_plainTells : ByteArray := prog_14_method_135_code
def yX12_plainTells : MethodName := ⟨RX12, "plainTells", "(II)I"⟩
abbrev cX12_riddleTells : ByteArray := prog_14_method_136_code
def yX12_riddleTells : MethodName := ⟨RX12, "riddleTells", "(II)I"⟩
abbrev cX12_tells : ByteArray := prog_14_method_137_code
def yX12_tells : MethodName := ⟨RX12, "tells", "(II)I"⟩
abbrev cX12_plainFinds : ByteArray := prog_14_method_138_code
def yX12_plainFinds : MethodName := ⟨RX12, "plainFinds", "(II)I"⟩
abbrev cX12_finds : ByteArray := prog_14_method_139_code
def yX12_finds : MethodName := ⟨RX12, "finds", "(II)I"⟩
abbrev cX12_plainEnds : ByteArray := prog_14_method_140_code
def yX12_plainEnds : MethodName := ⟨RX12, "plainEnds", "(II)I"⟩
abbrev cX12_ends : ByteArray := prog_14_method_141_code
def yX12_ends : MethodName := ⟨RX12, "ends", "(II)I"⟩
abbrev cX12_act : ByteArray := prog_14_method_142_code
def yX12_act : MethodName := ⟨RX12, "act", "(III)I"⟩
abbrev cX12_trace : ByteArray := prog_14_method_143_code
def yX12_trace : MethodName := ⟨RX12, "trace", "(I)I"⟩
abbrev cX12_count : ByteArray := prog_14_method_144_code
def yX12_count : MethodName := ⟨RX12, "count", "(I)I"⟩
abbrev cX12_isShelf : ByteArray := prog_14_method_145_code
def yX12_isShelf : MethodName := ⟨RX12, "isShelf", "(I)Z"⟩
abbrev cX12_keep : ByteArray := prog_14_method_146_code
def yX12_keep : MethodName := ⟨RX12, "keep", "(II)I"⟩
abbrev cX12_row : ByteArray := prog_14_method_147_code
def yX12_row : MethodName := ⟨RX12, "row", "(III)I"⟩
abbrev cX12_whyNoPlace : ByteArray := prog_14_method_148_code
def yX12_whyNoPlace : MethodName := ⟨RX12, "whyNoPlace", "(II)I"⟩
abbrev cX12_put : ByteArray := prog_14_method_149_code
def yX12_put : MethodName := ⟨RX12, "put", "(IIJ)I"⟩
abbrev cX12_element : ByteArray := prog_14_method_150_code
def yX12_element : MethodName := ⟨RX12, "element", "(II)J"⟩
abbrev cX12_shift : ByteArray := prog_14_method_151_code
def yX12_shift : MethodName := ⟨RX12, "shift", "(IIIII)I"⟩
abbrev cX12_taken : ByteArray := prog_14_method_152_code
def yX12_taken : MethodName := ⟨RX12, "taken", "(II)I"⟩
def RJx145de : String := "java/io/Serializable"
def TJx145de : u_T := fun k => match k with
  | _ => ("", "", "", false)
def tyJx145de : Nat → FieldType := fun k => match k with
  | _ => .int
abbrev wsJx145de0 : List Cond := u_ws RJx145de TJx145de 0
theorem nmJx145de : ∀ a, a < 0 → ∀ b, b < 0 → a ≠ b → (TJx145de a).2.1 ≠ (TJx145de b).2.1 := by decide +kernel
theorem tyJx145de_ok : ∀ k, k < 0 → parseFieldDescriptor (TJx145de k).2.2.1 = some (tyJx145de k) := by decide +kernel
def RJx9f9b0 : String := "java/lang/CharSequence"
def TJx9f9b0 : u_T := fun k => match k with
  | _ => ("", "", "", false)
def tyJx9f9b0 : Nat → FieldType := fun k => match k with
  | _ => .int
abbrev wsJx9f9b00 : List Cond := u_ws RJx9f9b0 TJx9f9b0 0
theorem nmJx9f9b0 : ∀ a, a < 0 → ∀ b, b < 0 → a ≠ b → (TJx9f9b0 a).2.1 ≠ (TJx9f9b0 b).2.1 := by decide +kernel
theorem tyJx9f9b0_ok : ∀ k, k < 0 → parseFieldDescriptor (TJx9f9b0 k).2.2.1 = some (tyJx9f9b0 k) := by decide +kernel
def RJ11 : String := "java/lang/Character"
def TJ11 : u_T := fun k => match k with
  | _ => ("", "", "", false)
def tyJ11 : Nat → FieldType := fun k => match k with
  | _ => .int
abbrev wsJ110 : List Cond := u_ws RJ11 TJ11 0
theorem nmJ11 : ∀ a, a < 0 → ∀ b, b < 0 → a ≠ b → (TJ11 a).2.1 ≠ (TJ11 b).2.1 := by decide +kernel
theorem tyJ11_ok : ∀ k, k < 0 → parseFieldDescriptor (TJ11 k).2.2.1 = some (tyJ11 k) := by decide +kernel
abbrev cJ11_isValidCodePoint_9a6ad : ByteArray := prog_15_method_11_code
def yJ11_isValidCodePoint_9a6ad : MethodName := ⟨RJ11, "isValidCodePoint", "(I)Z"⟩
abbrev cJ11_highSurrogate_5068e : ByteArray := prog_15_method_28_code
def yJ11_highSurrogate_5068e : MethodName := ⟨RJ11, "highSurrogate", "(I)C"⟩
abbrev cJ11_lowSurrogate_5068e : ByteArray := prog_15_method_29_code
def yJ11_lowSurrogate_5068e : MethodName := ⟨RJ11, "lowSurrogate", "(I)C"⟩
def RJxb160c : String := "java/lang/Comparable"
def TJxb160c : u_T := fun k => match k with
  | _ => ("", "", "", false)
def tyJxb160c : Nat → FieldType := fun k => match k with
  | _ => .int
abbrev wsJxb160c0 : List Cond := u_ws RJxb160c TJxb160c 0
theorem nmJxb160c : ∀ a, a < 0 → ∀ b, b < 0 → a ≠ b → (TJxb160c a).2.1 ≠ (TJxb160c b).2.1 := by decide +kernel
theorem tyJxb160c_ok : ∀ k, k < 0 → parseFieldDescriptor (TJxb160c k).2.2.1 = some (tyJxb160c k) := by decide +kernel
def RJ9 : String := "java/lang/Math"
def TJ9 : u_T := fun k => match k with
  | _ => ("", "", "", false)
def tyJ9 : Nat → FieldType := fun k => match k with
  | _ => .int
abbrev wsJ90 : List Cond := u_ws RJ9 TJ9 0
theorem nmJ9 : ∀ a, a < 0 → ∀ b, b < 0 → a ≠ b → (TJ9 a).2.1 ≠ (TJ9 b).2.1 := by decide +kernel
theorem tyJ9_ok : ∀ k, k < 0 → parseFieldDescriptor (TJ9 k).2.2.1 = some (tyJ9 k) := by decide +kernel
abbrev cJ9_abs_0f7a4 : ByteArray := prog_16_method_59_code
def yJ9_abs_0f7a4 : MethodName := ⟨RJ9, "abs", "(I)I"⟩
abbrev cJ9_max_7cf53 : ByteArray := prog_16_method_65_code
def yJ9_max_7cf53 : MethodName := ⟨RJ9, "max", "(II)I"⟩
abbrev cJ9_min_7cf53 : ByteArray := prog_16_method_69_code
def yJ9_min_7cf53 : MethodName := ⟨RJ9, "min", "(II)I"⟩
def RJ0 : String := "java/lang/String"
def TJ0 : u_T := fun k => match k with
  | _ => ("", "", "", false)
def tyJ0 : Nat → FieldType := fun k => match k with
  | _ => .int
abbrev wsJ00 : List Cond := u_ws RJ0 TJ0 0
theorem nmJ0 : ∀ a, a < 0 → ∀ b, b < 0 → a ≠ b → (TJ0 a).2.1 ≠ (TJ0 b).2.1 := by decide +kernel
theorem tyJ0_ok : ∀ k, k < 0 → parseFieldDescriptor (TJ0 k).2.2.1 = some (tyJ0 k) := by decide +kernel
abbrev cJ0_length_8abf5 : ByteArray := prog_17_method_54_code
def yJ0_length_8abf5 : MethodName := ⟨RJ0, "length", "()I"⟩
abbrev cJ0_charAt_5068e : ByteArray := prog_17_method_56_code
def yJ0_charAt_5068e : MethodName := ⟨RJ0, "charAt", "(I)C"⟩
abbrev cJ0_indexOf_0f7a4 : ByteArray := prog_17_method_79_code
def yJ0_indexOf_0f7a4 : MethodName := ⟨RJ0, "indexOf", "(I)I"⟩
abbrev cJ0_indexOf_7cf53 : ByteArray := prog_17_method_80_code
def yJ0_indexOf_7cf53 : MethodName := ⟨RJ0, "indexOf", "(II)I"⟩
abbrev cJ0_coder_7d493 : ByteArray := prog_17_method_152_code
def yJ0_coder_7d493 : MethodName := ⟨RJ0, "coder", "()B"⟩
abbrev cJ0_isLatin1_aae02 : ByteArray := prog_17_method_154_code
def yJ0_isLatin1_aae02 : MethodName := ⟨RJ0, "isLatin1", "()Z"⟩
abbrev cJ0_checkIndex_df160 : ByteArray := prog_17_method_155_code
def yJ0_checkIndex_df160 : MethodName := ⟨RJ0, "checkIndex", "(II)V"⟩
abbrev cJ0_checkBoundsBeginEnd_23922 : ByteArray := prog_17_method_158_code
def yJ0_checkBoundsBeginEnd_23922 : MethodName := ⟨RJ0, "checkBoundsBeginEnd", "(III)V"⟩
def RJ1 : String := "java/lang/StringLatin1"
def TJ1 : u_T := fun k => match k with
  | _ => ("", "", "", false)
def tyJ1 : Nat → FieldType := fun k => match k with
  | _ => .int
abbrev wsJ10 : List Cond := u_ws RJ1 TJ1 0
theorem nmJ1 : ∀ a, a < 0 → ∀ b, b < 0 → a ≠ b → (TJ1 a).2.1 ≠ (TJ1 b).2.1 := by decide +kernel
theorem tyJ1_ok : ∀ k, k < 0 → parseFieldDescriptor (TJ1 k).2.2.1 = some (tyJ1 k) := by decide +kernel
abbrev cJ1_charAt_3b067 : ByteArray := prog_18_method_2_code
def yJ1_charAt_3b067 : MethodName := ⟨RJ1, "charAt", "([BI)C"⟩
abbrev cJ1_canEncode_9a6ad : ByteArray := prog_18_method_4_code
def yJ1_canEncode_9a6ad : MethodName := ⟨RJ1, "canEncode", "(I)Z"⟩
abbrev cJ1_indexOf_4cfef : ByteArray := prog_18_method_22_code
def yJ1_indexOf_4cfef : MethodName := ⟨RJ1, "indexOf", "([BIII)I"⟩
abbrev cJ1_indexOfChar_4cfef : ByteArray := prog_18_method_23_code
def yJ1_indexOfChar_4cfef : MethodName := ⟨RJ1, "indexOfChar", "([BIII)I"⟩
def RJ2 : String := "java/lang/StringUTF16"
def TJ2 : u_T := fun k => match k with
  | _ => ("", "", "", false)
def tyJ2 : Nat → FieldType := fun k => match k with
  | _ => .int
abbrev wsJ20 : List Cond := u_ws RJ2 TJ2 0
theorem nmJ2 : ∀ a, a < 0 → ∀ b, b < 0 → a ≠ b → (TJ2 a).2.1 ≠ (TJ2 b).2.1 := by decide +kernel
theorem tyJ2_ok : ∀ k, k < 0 → parseFieldDescriptor (TJ2 k).2.2.1 = some (tyJ2 k) := by decide +kernel
abbrev cJ2_getChar_3b067 : ByteArray := prog_19_method_5_code
def yJ2_getChar_3b067 : MethodName := ⟨RJ2, "getChar", "([BI)C"⟩
abbrev cJ2_length_9d52b : ByteArray := prog_19_method_6_code
def yJ2_length_9d52b : MethodName := ⟨RJ2, "length", "([B)I"⟩
abbrev cJ2_indexOf_4cfef : ByteArray := prog_19_method_40_code
def yJ2_indexOf_4cfef : MethodName := ⟨RJ2, "indexOf", "([BIII)I"⟩
abbrev cJ2_indexOfChar_4cfef : ByteArray := prog_19_method_47_code
def yJ2_indexOfChar_4cfef : MethodName := ⟨RJ2, "indexOfChar", "([BIII)I"⟩
abbrev cJ2_indexOfCharUnsafe_4cfef : ByteArray := prog_19_method_48_code
def yJ2_indexOfCharUnsafe_4cfef : MethodName := ⟨RJ2, "indexOfCharUnsafe", "([BIII)I"⟩
abbrev cJ2_indexOfSupplementary_4cfef : ByteArray := prog_19_method_49_code
def yJ2_indexOfSupplementary_4cfef : MethodName := ⟨RJ2, "indexOfSupplementary", "([BIII)I"⟩
abbrev cJ2_charAt_3b067 : ByteArray := prog_19_method_83_code
def yJ2_charAt_3b067 : MethodName := ⟨RJ2, "charAt", "([BI)C"⟩
abbrev cJ2_checkIndex_2214a : ByteArray := prog_19_method_91_code
def yJ2_checkIndex_2214a : MethodName := ⟨RJ2, "checkIndex", "(I[B)V"⟩
abbrev cJ2_checkBoundsBeginEnd_d044e : ByteArray := prog_19_method_93_code
def yJ2_checkBoundsBeginEnd_d044e : MethodName := ⟨RJ2, "checkBoundsBeginEnd", "(II[B)V"⟩
def RJ10 : String := "java/lang/System"
def TJ10 : u_T := fun k => match k with
  | _ => ("", "", "", false)
def tyJ10 : Nat → FieldType := fun k => match k with
  | _ => .int
abbrev wsJ100 : List Cond := u_ws RJ10 TJ10 0
theorem nmJ10 : ∀ a, a < 0 → ∀ b, b < 0 → a ≠ b → (TJ10 a).2.1 ≠ (TJ10 b).2.1 := by decide +kernel
theorem tyJ10_ok : ∀ k, k < 0 → parseFieldDescriptor (TJ10 k).2.2.1 = some (tyJ10 k) := by decide +kernel
def RJxfd54e : String := "java/lang/constant/Constable"
def TJxfd54e : u_T := fun k => match k with
  | _ => ("", "", "", false)
def tyJxfd54e : Nat → FieldType := fun k => match k with
  | _ => .int
abbrev wsJxfd54e0 : List Cond := u_ws RJxfd54e TJxfd54e 0
theorem nmJxfd54e : ∀ a, a < 0 → ∀ b, b < 0 → a ≠ b → (TJxfd54e a).2.1 ≠ (TJxfd54e b).2.1 := by decide +kernel
theorem tyJxfd54e_ok : ∀ k, k < 0 → parseFieldDescriptor (TJxfd54e k).2.2.1 = some (tyJxfd54e k) := by decide +kernel
def RJx3cf43 : String := "java/lang/constant/ConstantDesc"
def TJx3cf43 : u_T := fun k => match k with
  | _ => ("", "", "", false)
def tyJx3cf43 : Nat → FieldType := fun k => match k with
  | _ => .int
abbrev wsJx3cf430 : List Cond := u_ws RJx3cf43 TJx3cf43 0
theorem nmJx3cf43 : ∀ a, a < 0 → ∀ b, b < 0 → a ≠ b → (TJx3cf43 a).2.1 ≠ (TJx3cf43 b).2.1 := by decide +kernel
theorem tyJx3cf43_ok : ∀ k, k < 0 → parseFieldDescriptor (TJx3cf43 k).2.2.1 = some (tyJx3cf43 k) := by decide +kernel
def RJ7 : String := "java/util/Arrays"
def TJ7 : u_T := fun k => match k with
  | _ => ("", "", "", false)
def tyJ7 : Nat → FieldType := fun k => match k with
  | _ => .int
abbrev wsJ70 : List Cond := u_ws RJ7 TJ7 0
theorem nmJ7 : ∀ a, a < 0 → ∀ b, b < 0 → a ≠ b → (TJ7 a).2.1 ≠ (TJ7 b).2.1 := by decide +kernel
theorem tyJ7_ok : ∀ k, k < 0 → parseFieldDescriptor (TJ7 k).2.2.1 = some (tyJ7 k) := by decide +kernel
abbrev cJ7_fill_d0a16 : ByteArray := prog_21_method_101_code
def yJ7_fill_d0a16 : MethodName := ⟨RJ7, "fill", "([JJ)V"⟩
abbrev cJ7_fill_53178 : ByteArray := prog_21_method_103_code
def yJ7_fill_53178 : MethodName := ⟨RJ7, "fill", "([II)V"⟩
def RJ3 : String := "jdk/internal/util/Preconditions"
def TJ3 : u_T := fun k => match k with
  | _ => ("", "", "", false)
def tyJ3 : Nat → FieldType := fun k => match k with
  | _ => .int
abbrev wsJ30 : List Cond := u_ws RJ3 TJ3 0
theorem nmJ3 : ∀ a, a < 0 → ∀ b, b < 0 → a ≠ b → (TJ3 a).2.1 ≠ (TJ3 b).2.1 := by decide +kernel
theorem tyJ3_ok : ∀ k, k < 0 → parseFieldDescriptor (TJ3 k).2.2.1 = some (tyJ3 k) := by decide +kernel
abbrev cJ3_checkIndex_8e157 : ByteArray := prog_22_method_11_code
def yJ3_checkIndex_8e157 : MethodName := ⟨RJ3, "checkIndex", "(IILjava/util/function/BiFunction;)I"⟩
abbrev cJ3_checkFromToIndex_8c36e : ByteArray := prog_22_method_12_code
def yJ3_checkFromToIndex_8c36e : MethodName := ⟨RJ3, "checkFromToIndex", "(IIILjava/util/function/BiFunction;)I"⟩
def RL : String := "HillBoxesLaw"
abbrev cL_law : ByteArray := code
def yL_law : MethodName := ⟨RL, "law", "([I)Z"⟩
theorem inX0 : ∀ w ∈ wsX00, w ∈ lw_big := in_big [397, 398] (by decide +kernel) (by decide +kernel)
theorem inX1 : ∀ w ∈ wsX10, w ∈ lw_big := in_big [697, 698, 663, 665, 667, 669, 671, 673, 675, 677, 679, 681, 683, 685, 687, 689, 691, 693, 695] (by decide +kernel) (by decide +kernel)
theorem inX2 : ∀ w ∈ wsX20, w ∈ lw_big := in_big [428, 429, 422, 424, 426] (by decide +kernel) (by decide +kernel)
theorem inX3 : ∀ w ∈ wsX30, w ∈ lw_big := in_big [60, 62, 64, 66, 68, 70, 72, 74, 76, 78] (by decide +kernel) (by decide +kernel)
theorem inX4 : ∀ w ∈ wsX40, w ∈ lw_big := in_big [201, 203, 205, 207, 209, 211, 213, 215, 217] (by decide +kernel) (by decide +kernel)
theorem inX5 : ∀ w ∈ wsX50, w ∈ lw_big := in_big [588, 590, 592, 594, 596, 598, 600, 602, 604, 606, 608, 610, 612, 614, 616] (by decide +kernel) (by decide +kernel)
theorem inX6 : ∀ w ∈ wsX60, w ∈ lw_big := in_big [149, 151, 153, 155, 157, 159, 161, 163, 165, 167, 169, 171, 173, 175, 177, 179] (by decide +kernel) (by decide +kernel)
theorem inX7 : ∀ w ∈ wsX70, w ∈ lw_big := in_big [298, 300, 302, 304, 306] (by decide +kernel) (by decide +kernel)
theorem inX8 : ∀ w ∈ wsX80, w ∈ lw_big := in_big [107, 109, 111, 113, 115, 117, 119, 121, 123, 125, 127] (by decide +kernel) (by decide +kernel)
theorem inX9 : ∀ w ∈ wsX90, w ∈ lw_big := in_big [389, 391, 383, 385, 387] (by decide +kernel) (by decide +kernel)
theorem inX10 : ∀ w ∈ wsX100, w ∈ lw_big := in_big [249, 251, 253, 255, 257, 259, 261, 263, 265, 267, 269, 271, 273, 275, 277, 279] (by decide +kernel) (by decide +kernel)
theorem inX11 : ∀ w ∈ wsX110, w ∈ lw_big := in_big [316, 318, 320, 322, 324, 326] (by decide +kernel) (by decide +kernel)
theorem inX12 : ∀ w ∈ wsX120, w ∈ lw_big := in_big [1617, 1619, 1621, 1623, 1625, 1627, 1629, 1631, 1633, 1635, 1637, 1639, 1641, 1643, 1645, 1647, 1649, 1651, 1653, 1655, 1657, 1659, 1661, 1663, 1665, 1667, 1669, 1671, 1673, 1675, 1677, 1679, 1681, 1683, 1685, 1687, 1689, 1691, 1693, 1695, 1697, 1699, 1701, 1703, 1705, 1707, 1709, 1711, 1713, 1715, 1717, 1719, 1721, 1723, 1725, 1727, 1729, 1731, 1733, 1735, 1737, 1739, 1741, 1743, 1745, 1747, 1749, 1751, 1753, 1755, 1757, 1759, 1761, 1763, 1765, 1767, 1769, 1771, 1773, 1775, 1777, 1779, 1781, 1783, 1785, 1787, 1789, 1791, 1793, 1795] (by decide +kernel) (by decide +kernel)
abbrev vwCl : List vw_C := [(RX0, TX0, 2), (RX1, TX1, 19), (RX2, TX2, 5), (RX3, TX3, 10), (RX4, TX4, 9), (RX5, TX5, 15), (RX6, TX6, 16), (RX7, TX7, 5), (RX8, TX8, 11), (RX9, TX9, 5), (RX10, TX10, 16), (RX11, TX11, 6), (RX12, TX12, 90)]
