-- ===== PART A: goes FIRST, ahead of the names: the tables' words, and 'selects' of the private methods out of them =====
/-- a private method of a class that the tables say can be made, by its rows of tables_1 -/
def lw_okq (q : MethodName × Nat) : Prop := (q.1.cls ≠ "java/lang/invoke/MethodHandle" ∧ q.1.cls ≠ "java/lang/invoke/VarHandle") ∧ Cond.instantiable q.1.cls q.2 ∈ tables_1 ∧ Cond.privateMethod q.1 ∈ tables_1 ∧ Cond.instanceMethod q.1 ∈ tables_1
theorem lw_p0 : lw_okq (⟨"SheepSquare", "noRow", "(I)Z"⟩, 9) := ⟨⟨by decide +kernel, by decide +kernel⟩, List.mem_of_getElem? (i := 13) (by decide +kernel), List.mem_of_getElem? (i := 260) (by decide +kernel), List.mem_of_getElem? (i := 261) (by decide +kernel)⟩
theorem lw_p1 : lw_okq (⟨"SheepSquare", "found", "(I)I"⟩, 9) := ⟨⟨by decide +kernel, by decide +kernel⟩, List.mem_of_getElem? (i := 13) (by decide +kernel), List.mem_of_getElem? (i := 265) (by decide +kernel), List.mem_of_getElem? (i := 266) (by decide +kernel)⟩
theorem lw_p2 : lw_okq (⟨"SheepSquare", "fine", "(I)I"⟩, 9) := ⟨⟨by decide +kernel, by decide +kernel⟩, List.mem_of_getElem? (i := 13) (by decide +kernel), List.mem_of_getElem? (i := 278) (by decide +kernel), List.mem_of_getElem? (i := 279) (by decide +kernel)⟩
theorem lw_p3 : lw_okq (⟨"SheepSquare$Reader", "look", "()V"⟩, 9) := ⟨⟨by decide +kernel, by decide +kernel⟩, List.mem_of_getElem? (i := 40) (by decide +kernel), List.mem_of_getElem? (i := 338) (by decide +kernel), List.mem_of_getElem? (i := 339) (by decide +kernel)⟩
theorem lw_p4 : lw_okq (⟨"SheepSquare$Reader", "lookAtNumber", "()V"⟩, 9) := ⟨⟨by decide +kernel, by decide +kernel⟩, List.mem_of_getElem? (i := 40) (by decide +kernel), List.mem_of_getElem? (i := 345) (by decide +kernel), List.mem_of_getElem? (i := 346) (by decide +kernel)⟩
theorem lw_p5 : lw_okq (⟨"SheepSquare$Reader", "readLaw", "(LSheepSquare$Square;)V"⟩, 9) := ⟨⟨by decide +kernel, by decide +kernel⟩, List.mem_of_getElem? (i := 40) (by decide +kernel), List.mem_of_getElem? (i := 349) (by decide +kernel), List.mem_of_getElem? (i := 350) (by decide +kernel)⟩
theorem lw_p6 : lw_okq (⟨"SheepSquare$Reader", "take", "(I)V"⟩, 9) := ⟨⟨by decide +kernel, by decide +kernel⟩, List.mem_of_getElem? (i := 40) (by decide +kernel), List.mem_of_getElem? (i := 353) (by decide +kernel), List.mem_of_getElem? (i := 354) (by decide +kernel)⟩
theorem lw_p7 : lw_okq (⟨"SheepSquare$Reader", "blame", "(I)V"⟩, 9) := ⟨⟨by decide +kernel, by decide +kernel⟩, List.mem_of_getElem? (i := 40) (by decide +kernel), List.mem_of_getElem? (i := 357) (by decide +kernel), List.mem_of_getElem? (i := 358) (by decide +kernel)⟩
theorem lw_p8 : lw_okq (⟨"SheepSquare$Reader", "takeNumber", "(II)I"⟩, 9) := ⟨⟨by decide +kernel, by decide +kernel⟩, List.mem_of_getElem? (i := 40) (by decide +kernel), List.mem_of_getElem? (i := 361) (by decide +kernel), List.mem_of_getElem? (i := 362) (by decide +kernel)⟩
theorem lw_p9 : lw_okq (⟨"SheepSquare$Reader", "readFlock", "(LSheepSquare$Square;)V"⟩, 9) := ⟨⟨by decide +kernel, by decide +kernel⟩, List.mem_of_getElem? (i := 40) (by decide +kernel), List.mem_of_getElem? (i := 365) (by decide +kernel), List.mem_of_getElem? (i := 366) (by decide +kernel)⟩
theorem lw_p10 : lw_okq (⟨"SheepSquare$Reader", "readSheep", "(LSheepSquare$Square;I)V"⟩, 9) := ⟨⟨by decide +kernel, by decide +kernel⟩, List.mem_of_getElem? (i := 40) (by decide +kernel), List.mem_of_getElem? (i := 369) (by decide +kernel), List.mem_of_getElem? (i := 370) (by decide +kernel)⟩
theorem lw_p11 : lw_okq (⟨"SheepSquare$Reader", "readSleepers", "(LSheepSquare$Square;)V"⟩, 9) := ⟨⟨by decide +kernel, by decide +kernel⟩, List.mem_of_getElem? (i := 40) (by decide +kernel), List.mem_of_getElem? (i := 373) (by decide +kernel), List.mem_of_getElem? (i := 374) (by decide +kernel)⟩
theorem lw_p12 : lw_okq (⟨"SheepSquare$Reader", "readSleeper", "(LSheepSquare$Square;I)V"⟩, 9) := ⟨⟨by decide +kernel, by decide +kernel⟩, List.mem_of_getElem? (i := 40) (by decide +kernel), List.mem_of_getElem? (i := 380) (by decide +kernel), List.mem_of_getElem? (i := 381) (by decide +kernel)⟩
theorem lw_p13 : lw_okq (⟨"SheepSquare", "noSquare", "()Z"⟩, 9) := ⟨⟨by decide +kernel, by decide +kernel⟩, List.mem_of_getElem? (i := 13) (by decide +kernel), List.mem_of_getElem? (i := 406) (by decide +kernel), List.mem_of_getElem? (i := 407) (by decide +kernel)⟩
theorem lw_p14 : lw_okq (⟨"SheepSquare$Square", "hear", "(II)V"⟩, 12) := ⟨⟨by decide +kernel, by decide +kernel⟩, List.mem_of_getElem? (i := 77) (by decide +kernel), List.mem_of_getElem? (i := 427) (by decide +kernel), List.mem_of_getElem? (i := 428) (by decide +kernel)⟩
theorem lw_p15 : lw_okq (⟨"SheepSquare$Square", "countMore", "(II)V"⟩, 12) := ⟨⟨by decide +kernel, by decide +kernel⟩, List.mem_of_getElem? (i := 77) (by decide +kernel), List.mem_of_getElem? (i := 431) (by decide +kernel), List.mem_of_getElem? (i := 432) (by decide +kernel)⟩
def lw_privs_1 : List (MethodName × Nat) := [(⟨"SheepSquare", "noRow", "(I)Z"⟩, 9), (⟨"SheepSquare", "found", "(I)I"⟩, 9), (⟨"SheepSquare", "fine", "(I)I"⟩, 9), (⟨"SheepSquare$Reader", "look", "()V"⟩, 9), (⟨"SheepSquare$Reader", "lookAtNumber", "()V"⟩, 9), (⟨"SheepSquare$Reader", "readLaw", "(LSheepSquare$Square;)V"⟩, 9), (⟨"SheepSquare$Reader", "take", "(I)V"⟩, 9), (⟨"SheepSquare$Reader", "blame", "(I)V"⟩, 9), (⟨"SheepSquare$Reader", "takeNumber", "(II)I"⟩, 9), (⟨"SheepSquare$Reader", "readFlock", "(LSheepSquare$Square;)V"⟩, 9), (⟨"SheepSquare$Reader", "readSheep", "(LSheepSquare$Square;I)V"⟩, 9), (⟨"SheepSquare$Reader", "readSleepers", "(LSheepSquare$Square;)V"⟩, 9), (⟨"SheepSquare$Reader", "readSleeper", "(LSheepSquare$Square;I)V"⟩, 9), (⟨"SheepSquare", "noSquare", "()Z"⟩, 9), (⟨"SheepSquare$Square", "hear", "(II)V"⟩, 12), (⟨"SheepSquare$Square", "countMore", "(II)V"⟩, 12)]
theorem lw_r1 : ∀ q ∈ lw_privs_1, lw_okq q := List.forall_mem_cons.mpr ⟨lw_p0, List.forall_mem_cons.mpr ⟨lw_p1, List.forall_mem_cons.mpr ⟨lw_p2, List.forall_mem_cons.mpr ⟨lw_p3, List.forall_mem_cons.mpr ⟨lw_p4, List.forall_mem_cons.mpr ⟨lw_p5, List.forall_mem_cons.mpr ⟨lw_p6, List.forall_mem_cons.mpr ⟨lw_p7, List.forall_mem_cons.mpr ⟨lw_p8, List.forall_mem_cons.mpr ⟨lw_p9, List.forall_mem_cons.mpr ⟨lw_p10, List.forall_mem_cons.mpr ⟨lw_p11, List.forall_mem_cons.mpr ⟨lw_p12, List.forall_mem_cons.mpr ⟨lw_p13, List.forall_mem_cons.mpr ⟨lw_p14, List.forall_mem_cons.mpr ⟨lw_p15, fun _ h => absurd h List.not_mem_nil⟩⟩⟩⟩⟩⟩⟩⟩⟩⟩⟩⟩⟩⟩⟩⟩
theorem lw_p16 : lw_okq (⟨"SheepSquare", "noSleeper", "(I)Z"⟩, 9) := ⟨⟨by decide +kernel, by decide +kernel⟩, List.mem_of_getElem? (i := 13) (by decide +kernel), List.mem_of_getElem? (i := 460) (by decide +kernel), List.mem_of_getElem? (i := 461) (by decide +kernel)⟩
theorem lw_p17 : lw_okq (⟨"SheepSquare", "tooFar", "(I)Z"⟩, 9) := ⟨⟨by decide +kernel, by decide +kernel⟩, List.mem_of_getElem? (i := 13) (by decide +kernel), List.mem_of_getElem? (i := 499) (by decide +kernel), List.mem_of_getElem? (i := 500) (by decide +kernel)⟩
theorem lw_p18 : lw_okq (⟨"SheepSquare", "noSleepers", "(I)Z"⟩, 9) := ⟨⟨by decide +kernel, by decide +kernel⟩, List.mem_of_getElem? (i := 13) (by decide +kernel), List.mem_of_getElem? (i := 536) (by decide +kernel), List.mem_of_getElem? (i := 537) (by decide +kernel)⟩
theorem lw_p19 : lw_okq (⟨"SheepSquare", "unreadable", "(III)I"⟩, 9) := ⟨⟨by decide +kernel, by decide +kernel⟩, List.mem_of_getElem? (i := 13) (by decide +kernel), List.mem_of_getElem? (i := 601) (by decide +kernel), List.mem_of_getElem? (i := 602) (by decide +kernel)⟩
theorem lw_p20 : lw_okq (⟨"SheepSquare$Foretold", "goesSo", "(LSheepSquare$Rows;II)Z"⟩, 2) := ⟨⟨by decide +kernel, by decide +kernel⟩, List.mem_of_getElem? (i := 184) (by decide +kernel), List.mem_of_getElem? (i := 610) (by decide +kernel), List.mem_of_getElem? (i := 611) (by decide +kernel)⟩
theorem lw_p21 : lw_okq (⟨"SheepSquare", "imageOf", "(I)LSheepSquare$Square;"⟩, 9) := ⟨⟨by decide +kernel, by decide +kernel⟩, List.mem_of_getElem? (i := 13) (by decide +kernel), List.mem_of_getElem? (i := 650) (by decide +kernel), List.mem_of_getElem? (i := 651) (by decide +kernel)⟩
theorem lw_p22 : lw_okq (⟨"SheepSquare$Asked", "answer", "(II)I"⟩, 6) := ⟨⟨by decide +kernel, by decide +kernel⟩, List.mem_of_getElem? (i := 201) (by decide +kernel), List.mem_of_getElem? (i := 679) (by decide +kernel), List.mem_of_getElem? (i := 680) (by decide +kernel)⟩
theorem lw_p23 : lw_okq (⟨"SheepSquare$Asked", "bodyFor", "(I)I"⟩, 6) := ⟨⟨by decide +kernel, by decide +kernel⟩, List.mem_of_getElem? (i := 201) (by decide +kernel), List.mem_of_getElem? (i := 683) (by decide +kernel), List.mem_of_getElem? (i := 684) (by decide +kernel)⟩
theorem lw_p24 : lw_okq (⟨"SheepSquare$Asked", "give", "(II)I"⟩, 6) := ⟨⟨by decide +kernel, by decide +kernel⟩, List.mem_of_getElem? (i := 201) (by decide +kernel), List.mem_of_getElem? (i := 692) (by decide +kernel), List.mem_of_getElem? (i := 693) (by decide +kernel)⟩
theorem lw_p25 : lw_okq (⟨"SheepSquareModel", "finds", "(I)I"⟩, 25) := ⟨⟨by decide +kernel, by decide +kernel⟩, List.mem_of_getElem? (i := 713) (by decide +kernel), List.mem_of_getElem? (i := 807) (by decide +kernel), List.mem_of_getElem? (i := 808) (by decide +kernel)⟩
theorem lw_p26 : lw_okq (⟨"SheepSquareModel", "done", "(I)I"⟩, 25) := ⟨⟨by decide +kernel, by decide +kernel⟩, List.mem_of_getElem? (i := 713) (by decide +kernel), List.mem_of_getElem? (i := 812) (by decide +kernel), List.mem_of_getElem? (i := 813) (by decide +kernel)⟩
theorem lw_p27 : lw_okq (⟨"SheepSquareModel", "isRead", "()Z"⟩, 25) := ⟨⟨by decide +kernel, by decide +kernel⟩, List.mem_of_getElem? (i := 713) (by decide +kernel), List.mem_of_getElem? (i := 840) (by decide +kernel), List.mem_of_getElem? (i := 841) (by decide +kernel)⟩
theorem lw_p28 : lw_okq (⟨"SheepSquareModel", "isSign", "(I)Z"⟩, 25) := ⟨⟨by decide +kernel, by decide +kernel⟩, List.mem_of_getElem? (i := 713) (by decide +kernel), List.mem_of_getElem? (i := 844) (by decide +kernel), List.mem_of_getElem? (i := 845) (by decide +kernel)⟩
theorem lw_p29 : lw_okq (⟨"SheepSquareModel", "nextToken", "()V"⟩, 25) := ⟨⟨by decide +kernel, by decide +kernel⟩, List.mem_of_getElem? (i := 713) (by decide +kernel), List.mem_of_getElem? (i := 848) (by decide +kernel), List.mem_of_getElem? (i := 849) (by decide +kernel)⟩
theorem lw_p30 : lw_okq (⟨"SheepSquareModel", "fails", "(I)Z"⟩, 25) := ⟨⟨by decide +kernel, by decide +kernel⟩, List.mem_of_getElem? (i := 713) (by decide +kernel), List.mem_of_getElem? (i := 852) (by decide +kernel), List.mem_of_getElem? (i := 853) (by decide +kernel)⟩
theorem lw_p31 : lw_okq (⟨"SheepSquareModel", "isNumber", "(II)Z"⟩, 25) := ⟨⟨by decide +kernel, by decide +kernel⟩, List.mem_of_getElem? (i := 713) (by decide +kernel), List.mem_of_getElem? (i := 856) (by decide +kernel), List.mem_of_getElem? (i := 857) (by decide +kernel)⟩
def lw_privs_2 : List (MethodName × Nat) := [(⟨"SheepSquare", "noSleeper", "(I)Z"⟩, 9), (⟨"SheepSquare", "tooFar", "(I)Z"⟩, 9), (⟨"SheepSquare", "noSleepers", "(I)Z"⟩, 9), (⟨"SheepSquare", "unreadable", "(III)I"⟩, 9), (⟨"SheepSquare$Foretold", "goesSo", "(LSheepSquare$Rows;II)Z"⟩, 2), (⟨"SheepSquare", "imageOf", "(I)LSheepSquare$Square;"⟩, 9), (⟨"SheepSquare$Asked", "answer", "(II)I"⟩, 6), (⟨"SheepSquare$Asked", "bodyFor", "(I)I"⟩, 6), (⟨"SheepSquare$Asked", "give", "(II)I"⟩, 6), (⟨"SheepSquareModel", "finds", "(I)I"⟩, 25), (⟨"SheepSquareModel", "done", "(I)I"⟩, 25), (⟨"SheepSquareModel", "isRead", "()Z"⟩, 25), (⟨"SheepSquareModel", "isSign", "(I)Z"⟩, 25), (⟨"SheepSquareModel", "nextToken", "()V"⟩, 25), (⟨"SheepSquareModel", "fails", "(I)Z"⟩, 25), (⟨"SheepSquareModel", "isNumber", "(II)Z"⟩, 25)]
theorem lw_r2 : ∀ q ∈ lw_privs_2, lw_okq q := List.forall_mem_cons.mpr ⟨lw_p16, List.forall_mem_cons.mpr ⟨lw_p17, List.forall_mem_cons.mpr ⟨lw_p18, List.forall_mem_cons.mpr ⟨lw_p19, List.forall_mem_cons.mpr ⟨lw_p20, List.forall_mem_cons.mpr ⟨lw_p21, List.forall_mem_cons.mpr ⟨lw_p22, List.forall_mem_cons.mpr ⟨lw_p23, List.forall_mem_cons.mpr ⟨lw_p24, List.forall_mem_cons.mpr ⟨lw_p25, List.forall_mem_cons.mpr ⟨lw_p26, List.forall_mem_cons.mpr ⟨lw_p27, List.forall_mem_cons.mpr ⟨lw_p28, List.forall_mem_cons.mpr ⟨lw_p29, List.forall_mem_cons.mpr ⟨lw_p30, List.forall_mem_cons.mpr ⟨lw_p31, fun _ h => absurd h List.not_mem_nil⟩⟩⟩⟩⟩⟩⟩⟩⟩⟩⟩⟩⟩⟩⟩⟩
theorem lw_p32 : lw_okq (⟨"SheepSquareModel", "isItem", "()Z"⟩, 25) := ⟨⟨by decide +kernel, by decide +kernel⟩, List.mem_of_getElem? (i := 713) (by decide +kernel), List.mem_of_getElem? (i := 860) (by decide +kernel), List.mem_of_getElem? (i := 861) (by decide +kernel)⟩
theorem lw_p33 : lw_okq (⟨"SheepSquareModel", "isPair", "(IIIII)Z"⟩, 25) := ⟨⟨by decide +kernel, by decide +kernel⟩, List.mem_of_getElem? (i := 713) (by decide +kernel), List.mem_of_getElem? (i := 864) (by decide +kernel), List.mem_of_getElem? (i := 865) (by decide +kernel)⟩
theorem lw_p34 : lw_okq (⟨"SheepSquareModel", "isSquare", "()Z"⟩, 25) := ⟨⟨by decide +kernel, by decide +kernel⟩, List.mem_of_getElem? (i := 713) (by decide +kernel), List.mem_of_getElem? (i := 883) (by decide +kernel), List.mem_of_getElem? (i := 884) (by decide +kernel)⟩
theorem lw_p35 : lw_okq (⟨"SheepSquareModel", "note", "()V"⟩, 25) := ⟨⟨by decide +kernel, by decide +kernel⟩, List.mem_of_getElem? (i := 713) (by decide +kernel), List.mem_of_getElem? (i := 888) (by decide +kernel), List.mem_of_getElem? (i := 889) (by decide +kernel)⟩
theorem lw_p36 : lw_okq (⟨"SheepSquareModel", "flock", "()I"⟩, 25) := ⟨⟨by decide +kernel, by decide +kernel⟩, List.mem_of_getElem? (i := 713) (by decide +kernel), List.mem_of_getElem? (i := 892) (by decide +kernel), List.mem_of_getElem? (i := 893) (by decide +kernel)⟩
theorem lw_p37 : lw_okq (⟨"SheepSquareModel", "isOne", "(I)Z"⟩, 25) := ⟨⟨by decide +kernel, by decide +kernel⟩, List.mem_of_getElem? (i := 713) (by decide +kernel), List.mem_of_getElem? (i := 926) (by decide +kernel), List.mem_of_getElem? (i := 927) (by decide +kernel)⟩
theorem lw_p38 : lw_okq (⟨"SheepSquareModel", "heardBy", "(I)I"⟩, 25) := ⟨⟨by decide +kernel, by decide +kernel⟩, List.mem_of_getElem? (i := 713) (by decide +kernel), List.mem_of_getElem? (i := 938) (by decide +kernel), List.mem_of_getElem? (i := 939) (by decide +kernel)⟩
theorem lw_p39 : lw_okq (⟨"SheepSquareModel", "goOn", "(I)V"⟩, 25) := ⟨⟨by decide +kernel, by decide +kernel⟩, List.mem_of_getElem? (i := 713) (by decide +kernel), List.mem_of_getElem? (i := 950) (by decide +kernel), List.mem_of_getElem? (i := 951) (by decide +kernel)⟩
theorem lw_p40 : lw_okq (⟨"SheepSquareModel", "begin", "()V"⟩, 25) := ⟨⟨by decide +kernel, by decide +kernel⟩, List.mem_of_getElem? (i := 713) (by decide +kernel), List.mem_of_getElem? (i := 954) (by decide +kernel), List.mem_of_getElem? (i := 955) (by decide +kernel)⟩
theorem lw_p41 : lw_okq (⟨"SheepSquareModel", "firstOf", "(III)I"⟩, 25) := ⟨⟨by decide +kernel, by decide +kernel⟩, List.mem_of_getElem? (i := 713) (by decide +kernel), List.mem_of_getElem? (i := 966) (by decide +kernel), List.mem_of_getElem? (i := 967) (by decide +kernel)⟩
theorem lw_p42 : lw_okq (⟨"SheepSquareModel", "isSet", "(I)Z"⟩, 25) := ⟨⟨by decide +kernel, by decide +kernel⟩, List.mem_of_getElem? (i := 713) (by decide +kernel), List.mem_of_getElem? (i := 975) (by decide +kernel), List.mem_of_getElem? (i := 976) (by decide +kernel)⟩
theorem lw_p43 : lw_okq (⟨"SheepSquareModel", "layOff", "()V"⟩, 25) := ⟨⟨by decide +kernel, by decide +kernel⟩, List.mem_of_getElem? (i := 713) (by decide +kernel), List.mem_of_getElem? (i := 983) (by decide +kernel), List.mem_of_getElem? (i := 984) (by decide +kernel)⟩
theorem lw_p44 : lw_okq (⟨"SheepSquareModel", "layRow", "(I)V"⟩, 25) := ⟨⟨by decide +kernel, by decide +kernel⟩, List.mem_of_getElem? (i := 713) (by decide +kernel), List.mem_of_getElem? (i := 995) (by decide +kernel), List.mem_of_getElem? (i := 996) (by decide +kernel)⟩
theorem lw_p45 : lw_okq (⟨"SheepSquareModel", "takeOut", "(III)I"⟩, 25) := ⟨⟨by decide +kernel, by decide +kernel⟩, List.mem_of_getElem? (i := 713) (by decide +kernel), List.mem_of_getElem? (i := 1007) (by decide +kernel), List.mem_of_getElem? (i := 1008) (by decide +kernel)⟩
theorem lw_p46 : lw_okq (⟨"SheepSquareModel", "isSo", "(II)Z"⟩, 25) := ⟨⟨by decide +kernel, by decide +kernel⟩, List.mem_of_getElem? (i := 713) (by decide +kernel), List.mem_of_getElem? (i := 1011) (by decide +kernel), List.mem_of_getElem? (i := 1012) (by decide +kernel)⟩
theorem lw_p47 : lw_okq (⟨"SheepSquareModel", "sizeOf", "(I)I"⟩, 25) := ⟨⟨by decide +kernel, by decide +kernel⟩, List.mem_of_getElem? (i := 713) (by decide +kernel), List.mem_of_getElem? (i := 1050) (by decide +kernel), List.mem_of_getElem? (i := 1051) (by decide +kernel)⟩
def lw_privs_3 : List (MethodName × Nat) := [(⟨"SheepSquareModel", "isItem", "()Z"⟩, 25), (⟨"SheepSquareModel", "isPair", "(IIIII)Z"⟩, 25), (⟨"SheepSquareModel", "isSquare", "()Z"⟩, 25), (⟨"SheepSquareModel", "note", "()V"⟩, 25), (⟨"SheepSquareModel", "flock", "()I"⟩, 25), (⟨"SheepSquareModel", "isOne", "(I)Z"⟩, 25), (⟨"SheepSquareModel", "heardBy", "(I)I"⟩, 25), (⟨"SheepSquareModel", "goOn", "(I)V"⟩, 25), (⟨"SheepSquareModel", "begin", "()V"⟩, 25), (⟨"SheepSquareModel", "firstOf", "(III)I"⟩, 25), (⟨"SheepSquareModel", "isSet", "(I)Z"⟩, 25), (⟨"SheepSquareModel", "layOff", "()V"⟩, 25), (⟨"SheepSquareModel", "layRow", "(I)V"⟩, 25), (⟨"SheepSquareModel", "takeOut", "(III)I"⟩, 25), (⟨"SheepSquareModel", "isSo", "(II)Z"⟩, 25), (⟨"SheepSquareModel", "sizeOf", "(I)I"⟩, 25)]
theorem lw_r3 : ∀ q ∈ lw_privs_3, lw_okq q := List.forall_mem_cons.mpr ⟨lw_p32, List.forall_mem_cons.mpr ⟨lw_p33, List.forall_mem_cons.mpr ⟨lw_p34, List.forall_mem_cons.mpr ⟨lw_p35, List.forall_mem_cons.mpr ⟨lw_p36, List.forall_mem_cons.mpr ⟨lw_p37, List.forall_mem_cons.mpr ⟨lw_p38, List.forall_mem_cons.mpr ⟨lw_p39, List.forall_mem_cons.mpr ⟨lw_p40, List.forall_mem_cons.mpr ⟨lw_p41, List.forall_mem_cons.mpr ⟨lw_p42, List.forall_mem_cons.mpr ⟨lw_p43, List.forall_mem_cons.mpr ⟨lw_p44, List.forall_mem_cons.mpr ⟨lw_p45, List.forall_mem_cons.mpr ⟨lw_p46, List.forall_mem_cons.mpr ⟨lw_p47, fun _ h => absurd h List.not_mem_nil⟩⟩⟩⟩⟩⟩⟩⟩⟩⟩⟩⟩⟩⟩⟩⟩
theorem lw_p48 : lw_okq (⟨"SheepSquareModel", "begins", "(I)V"⟩, 25) := ⟨⟨by decide +kernel, by decide +kernel⟩, List.mem_of_getElem? (i := 713) (by decide +kernel), List.mem_of_getElem? (i := 1054) (by decide +kernel), List.mem_of_getElem? (i := 1055) (by decide +kernel)⟩
theorem lw_p49 : lw_okq (⟨"SheepSquareModel", "sizeNervous", "(I)I"⟩, 25) := ⟨⟨by decide +kernel, by decide +kernel⟩, List.mem_of_getElem? (i := 713) (by decide +kernel), List.mem_of_getElem? (i := 1058) (by decide +kernel), List.mem_of_getElem? (i := 1059) (by decide +kernel)⟩
theorem lw_p50 : lw_okq (⟨"SheepSquareModel", "markWarm", "(I)I"⟩, 25) := ⟨⟨by decide +kernel, by decide +kernel⟩, List.mem_of_getElem? (i := 713) (by decide +kernel), List.mem_of_getElem? (i := 1062) (by decide +kernel), List.mem_of_getElem? (i := 1063) (by decide +kernel)⟩
theorem lw_p51 : lw_okq (⟨"SheepSquareModel", "markPlain", "(I)I"⟩, 25) := ⟨⟨by decide +kernel, by decide +kernel⟩, List.mem_of_getElem? (i := 713) (by decide +kernel), List.mem_of_getElem? (i := 1066) (by decide +kernel), List.mem_of_getElem? (i := 1067) (by decide +kernel)⟩
theorem lw_p52 : lw_okq (⟨"SheepSquareModel", "markOf", "(I)I"⟩, 25) := ⟨⟨by decide +kernel, by decide +kernel⟩, List.mem_of_getElem? (i := 713) (by decide +kernel), List.mem_of_getElem? (i := 1070) (by decide +kernel), List.mem_of_getElem? (i := 1071) (by decide +kernel)⟩
def lw_privs_4 : List (MethodName × Nat) := [(⟨"SheepSquareModel", "begins", "(I)V"⟩, 25), (⟨"SheepSquareModel", "sizeNervous", "(I)I"⟩, 25), (⟨"SheepSquareModel", "markWarm", "(I)I"⟩, 25), (⟨"SheepSquareModel", "markPlain", "(I)I"⟩, 25), (⟨"SheepSquareModel", "markOf", "(I)I"⟩, 25)]
theorem lw_r4 : ∀ q ∈ lw_privs_4, lw_okq q := List.forall_mem_cons.mpr ⟨lw_p48, List.forall_mem_cons.mpr ⟨lw_p49, List.forall_mem_cons.mpr ⟨lw_p50, List.forall_mem_cons.mpr ⟨lw_p51, List.forall_mem_cons.mpr ⟨lw_p52, fun _ h => absurd h List.not_mem_nil⟩⟩⟩⟩⟩
def lw_privs : List (MethodName × Nat) := lw_privs_1 ++ (lw_privs_2 ++ (lw_privs_3 ++ (lw_privs_4)))
def lw_tbl : List Cond := k2_sels lw_privs ++ tables_1
theorem lw_privs_ok : ∀ q ∈ lw_privs, lw_okq q := by
  show ∀ q ∈ lw_privs_1 ++ (lw_privs_2 ++ (lw_privs_3 ++ (lw_privs_4))), lw_okq q
  exact List.forall_mem_append.mpr ⟨lw_r1, List.forall_mem_append.mpr ⟨lw_r2, List.forall_mem_append.mpr ⟨lw_r3, lw_r4⟩⟩⟩
def RX0 : String := "SheepSquare$Acts"
def TX0 : u_T := fun k => match k with
  | 0 => ("SheepSquare$Acts", "kept", "I", false)
  | 1 => ("SheepSquare$Acts", "next", "I", false)
  | 2 => ("SheepSquare$Acts", "step", "[I", true)
  | 3 => ("SheepSquare$Acts", "wind", "[I", true)
  | 4 => ("SheepSquare$Acts", "off", "[I", true)
  | 5 => ("SheepSquare$Acts", "counted", "[I", true)
  | _ => ("SheepSquare$Acts", "row", "[I", true)
def tyX0 : Nat → FieldType := fun k => match k with
  | 0 => .int
  | 1 => .int
  | 2 => .array .int
  | 3 => .array .int
  | 4 => .array .int
  | 5 => .array .int
  | _ => .array .int
abbrev wsX00 : List Cond := u_ws RX0 TX0 7
theorem nmX0 : ∀ a, a < 7 → ∀ b, b < 7 → a ≠ b → (TX0 a).2.1 ≠ (TX0 b).2.1 := by decide +kernel
theorem tyX0_ok : ∀ k, k < 7 → parseFieldDescriptor (TX0 k).2.2.1 = some (tyX0 k) := by decide +kernel
abbrev cX0_init : ByteArray := prog_2_method_1_code
def yX0_init : MethodName := ⟨RX0, "<init>", "()V"⟩
abbrev cX0_keep : ByteArray := prog_2_method_2_code
def yX0_keep : MethodName := ⟨RX0, "keep", "(LSheepSquare$Square;)V"⟩
abbrev cX0_takeBack : ByteArray := prog_2_method_3_code
def yX0_takeBack : MethodName := ⟨RX0, "takeBack", "(LSheepSquare$Square;)V"⟩
abbrev cX0_forget : ByteArray := prog_2_method_4_code
def yX0_forget : MethodName := ⟨RX0, "forget", "()V"⟩
def RX1 : String := "SheepSquare$Asked"
def TX1 : u_T := fun k => match k with
  | 0 => ("SheepSquare$Asked", "trace", "[I", true)
  | 1 => ("SheepSquare$Asked", "left", "I", false)
  | 2 => ("SheepSquare$Asked", "number", "I", false)
  | 3 => ("SheepSquare$Asked", "kind", "I", false)
  | 4 => ("SheepSquare$Asked", "needs", "I", false)
  | _ => ("SheepSquare$Asked", "counted", "I", false)
def tyX1 : Nat → FieldType := fun k => match k with
  | 0 => .array .int
  | 1 => .int
  | 2 => .int
  | 3 => .int
  | 4 => .int
  | _ => .int
abbrev wsX10 : List Cond := u_ws RX1 TX1 6
theorem nmX1 : ∀ a, a < 6 → ∀ b, b < 6 → a ≠ b → (TX1 a).2.1 ≠ (TX1 b).2.1 := by decide +kernel
theorem tyX1_ok : ∀ k, k < 6 → parseFieldDescriptor (TX1 k).2.2.1 = some (tyX1 k) := by decide +kernel
abbrev cX1_init : ByteArray := prog_3_method_1_code
def yX1_init : MethodName := ⟨RX1, "<init>", "()V"⟩
abbrev cX1_begin : ByteArray := prog_3_method_2_code
def yX1_begin : MethodName := ⟨RX1, "begin", "(LSheepSquare$Square;II)I"⟩
abbrev cX1_answer : ByteArray := prog_3_method_3_code
def yX1_answer : MethodName := ⟨RX1, "answer", "(II)I"⟩
abbrev cX1_bodyFor : ByteArray := prog_3_method_4_code
def yX1_bodyFor : MethodName := ⟨RX1, "bodyFor", "(I)I"⟩
abbrev cX1_give : ByteArray := prog_3_method_5_code
def yX1_give : MethodName := ⟨RX1, "give", "(II)I"⟩
def RX2 : String := "SheepSquare$Foretold"
def TX2 : u_T := fun k => match k with
  | 0 => ("SheepSquare$Foretold", "trial", "LSheepSquare$Square;", true)
  | _ => ("SheepSquare$Foretold", "best", "[I", true)
def tyX2 : Nat → FieldType := fun k => match k with
  | 0 => .object "SheepSquare$Square"
  | _ => .array .int
abbrev wsX20 : List Cond := u_ws RX2 TX2 2
theorem nmX2 : ∀ a, a < 2 → ∀ b, b < 2 → a ≠ b → (TX2 a).2.1 ≠ (TX2 b).2.1 := by decide +kernel
theorem tyX2_ok : ∀ k, k < 2 → parseFieldDescriptor (TX2 k).2.2.1 = some (tyX2 k) := by decide +kernel
abbrev cX2_init : ByteArray := prog_4_method_1_code
def yX2_init : MethodName := ⟨RX2, "<init>", "()V"⟩
abbrev cX2_begin : ByteArray := prog_4_method_2_code
def yX2_begin : MethodName := ⟨RX2, "begin", "(LSheepSquare$Square;)V"⟩
abbrev cX2_goFar : ByteArray := prog_4_method_3_code
def yX2_goFar : MethodName := ⟨RX2, "goFar", "(II)V"⟩
abbrev cX2_soonest : ByteArray := prog_4_method_4_code
def yX2_soonest : MethodName := ⟨RX2, "soonest", "(II)I"⟩
abbrev cX2_sleepless : ByteArray := prog_4_method_5_code
def yX2_sleepless : MethodName := ⟨RX2, "sleepless", "()I"⟩
abbrev cX2_calm : ByteArray := prog_4_method_6_code
def yX2_calm : MethodName := ⟨RX2, "calm", "(I)I"⟩
abbrev cX2_bestOrder : ByteArray := prog_4_method_7_code
def yX2_bestOrder : MethodName := ⟨RX2, "bestOrder", "(LSheepSquare$Square;I)I"⟩
abbrev cX2_smallestFlock : ByteArray := prog_4_method_8_code
def yX2_smallestFlock : MethodName := ⟨RX2, "smallestFlock", "(LSheepSquare$Square;II)I"⟩
abbrev cX2_strays : ByteArray := prog_4_method_9_code
def yX2_strays : MethodName := ⟨RX2, "strays", "(LSheepSquare$Square;LSheepSquare$Rows;II)I"⟩
abbrev cX2_winds : ByteArray := prog_4_method_10_code
def yX2_winds : MethodName := ⟨RX2, "winds", "(LSheepSquare$Square;LSheepSquare$Rows;II)I"⟩
abbrev cX2_kinds : ByteArray := prog_4_method_11_code
def yX2_kinds : MethodName := ⟨RX2, "kinds", "(LSheepSquare$Square;ILSheepSquare$Rows;II)I"⟩
abbrev cX2_goesSo : ByteArray := prog_4_method_12_code
def yX2_goesSo : MethodName := ⟨RX2, "goesSo", "(LSheepSquare$Rows;II)Z"⟩
abbrev cX2_chance : ByteArray := prog_4_method_13_code
def yX2_chance : MethodName := ⟨RX2, "chance", "(LSheepSquare$Square;III)I"⟩
abbrev cX2_weight : ByteArray := prog_4_method_14_code
def yX2_weight : MethodName := ⟨RX2, "weight", "(IIII)I"⟩
def RX3 : String := "SheepSquare$Reader"
def TX3 : u_T := fun k => match k with
  | 0 => ("SheepSquare$Reader", "tape", "[I", true)
  | 1 => ("SheepSquare$Reader", "bytes", "I", false)
  | 2 => ("SheepSquare$Reader", "latestFault", "I", false)
  | 3 => ("SheepSquare$Reader", "faultPlace", "I", false)
  | 4 => ("SheepSquare$Reader", "faulty", "Z", false)
  | 5 => ("SheepSquare$Reader", "at", "I", false)
  | 6 => ("SheepSquare$Reader", "start", "I", false)
  | 7 => ("SheepSquare$Reader", "token", "I", false)
  | _ => ("SheepSquare$Reader", "value", "I", false)
def tyX3 : Nat → FieldType := fun k => match k with
  | 0 => .array .int
  | 1 => .int
  | 2 => .int
  | 3 => .int
  | 4 => .boolean
  | 5 => .int
  | 6 => .int
  | 7 => .int
  | _ => .int
abbrev wsX30 : List Cond := u_ws RX3 TX3 9
theorem nmX3 : ∀ a, a < 9 → ∀ b, b < 9 → a ≠ b → (TX3 a).2.1 ≠ (TX3 b).2.1 := by decide +kernel
theorem tyX3_ok : ∀ k, k < 9 → parseFieldDescriptor (TX3 k).2.2.1 = some (tyX3 k) := by decide +kernel
abbrev cX3_init : ByteArray := prog_5_method_1_code
def yX3_init : MethodName := ⟨RX3, "<init>", "()V"⟩
abbrev cX3_append : ByteArray := prog_5_method_2_code
def yX3_append : MethodName := ⟨RX3, "append", "(I)V"⟩
abbrev cX3_reads : ByteArray := prog_5_method_3_code
def yX3_reads : MethodName := ⟨RX3, "reads", "(LSheepSquare$Square;)Z"⟩
abbrev cX3_readLaw : ByteArray := prog_5_method_4_code
def yX3_readLaw : MethodName := ⟨RX3, "readLaw", "(LSheepSquare$Square;)V"⟩
abbrev cX3_readFlock : ByteArray := prog_5_method_5_code
def yX3_readFlock : MethodName := ⟨RX3, "readFlock", "(LSheepSquare$Square;)V"⟩
abbrev cX3_readSheep : ByteArray := prog_5_method_6_code
def yX3_readSheep : MethodName := ⟨RX3, "readSheep", "(LSheepSquare$Square;I)V"⟩
abbrev cX3_readSleepers : ByteArray := prog_5_method_7_code
def yX3_readSleepers : MethodName := ⟨RX3, "readSleepers", "(LSheepSquare$Square;)V"⟩
abbrev cX3_readSleeper : ByteArray := prog_5_method_8_code
def yX3_readSleeper : MethodName := ⟨RX3, "readSleeper", "(LSheepSquare$Square;I)V"⟩
abbrev cX3_kindOf : ByteArray := prog_5_method_9_code
def yX3_kindOf : MethodName := ⟨RX3, "kindOf", "(I)I"⟩
abbrev cX3_take : ByteArray := prog_5_method_10_code
def yX3_take : MethodName := ⟨RX3, "take", "(I)V"⟩
abbrev cX3_takeNumber : ByteArray := prog_5_method_11_code
def yX3_takeNumber : MethodName := ⟨RX3, "takeNumber", "(II)I"⟩
abbrev cX3_blame : ByteArray := prog_5_method_12_code
def yX3_blame : MethodName := ⟨RX3, "blame", "(I)V"⟩
abbrev cX3_look : ByteArray := prog_5_method_13_code
def yX3_look : MethodName := ⟨RX3, "look", "()V"⟩
abbrev cX3_lookAtNumber : ByteArray := prog_5_method_14_code
def yX3_lookAtNumber : MethodName := ⟨RX3, "lookAtNumber", "()V"⟩
abbrev cX3_isFigure : ByteArray := prog_5_method_15_code
def yX3_isFigure : MethodName := ⟨RX3, "isFigure", "(I)Z"⟩
def RX4 : String := "SheepSquare$Rows"
def TX4 : u_T := fun k => match k with
  | 0 => ("SheepSquare$Rows", "lane", "[I", true)
  | 1 => ("SheepSquare$Rows", "size", "[I", true)
  | _ => ("SheepSquare$Rows", "items", "[I", true)
def tyX4 : Nat → FieldType := fun k => match k with
  | 0 => .array .int
  | 1 => .array .int
  | _ => .array .int
abbrev wsX40 : List Cond := u_ws RX4 TX4 3
theorem nmX4 : ∀ a, a < 3 → ∀ b, b < 3 → a ≠ b → (TX4 a).2.1 ≠ (TX4 b).2.1 := by decide +kernel
theorem tyX4_ok : ∀ k, k < 3 → parseFieldDescriptor (TX4 k).2.2.1 = some (tyX4 k) := by decide +kernel
abbrev cX4_init : ByteArray := prog_6_method_1_code
def yX4_init : MethodName := ⟨RX4, "<init>", "()V"⟩
abbrev cX4_isGone : ByteArray := prog_6_method_2_code
def yX4_isGone : MethodName := ⟨RX4, "isGone", "(I)Z"⟩
abbrev cX4_lacks : ByteArray := prog_6_method_3_code
def yX4_lacks : MethodName := ⟨RX4, "lacks", "(III)Z"⟩
abbrev cX4_placeOf : ByteArray := prog_6_method_4_code
def yX4_placeOf : MethodName := ⟨RX4, "placeOf", "(II)I"⟩
abbrev cX4_make : ByteArray := prog_6_method_5_code
def yX4_make : MethodName := ⟨RX4, "make", "(III)V"⟩
abbrev cX4_put : ByteArray := prog_6_method_6_code
def yX4_put : MethodName := ⟨RX4, "put", "(III)I"⟩
abbrev cX4_move : ByteArray := prog_6_method_7_code
def yX4_move : MethodName := ⟨RX4, "move", "(IIIII)V"⟩
abbrev cX4_lose : ByteArray := prog_6_method_8_code
def yX4_lose : MethodName := ⟨RX4, "lose", "(I)I"⟩
abbrev cX4_howMany : ByteArray := prog_6_method_9_code
def yX4_howMany : MethodName := ⟨RX4, "howMany", "()I"⟩
def RX5 : String := "SheepSquare$Square"
def TX5 : u_T := fun k => match k with
  | 0 => ("SheepSquare$Square", "sheep", "I", false)
  | 1 => ("SheepSquare$Square", "sleepers", "I", false)
  | 2 => ("SheepSquare$Square", "step", "I", false)
  | 3 => ("SheepSquare$Square", "wind", "I", false)
  | 4 => ("SheepSquare$Square", "off", "I", false)
  | 5 => ("SheepSquare$Square", "loud", "[I", true)
  | 6 => ("SheepSquare$Square", "coat", "[I", true)
  | 7 => ("SheepSquare$Square", "row", "[I", true)
  | 8 => ("SheepSquare$Square", "kind", "[I", true)
  | 9 => ("SheepSquare$Square", "needs", "[I", true)
  | 10 => ("SheepSquare$Square", "side", "[I", true)
  | _ => ("SheepSquare$Square", "counted", "[I", true)
def tyX5 : Nat → FieldType := fun k => match k with
  | 0 => .int
  | 1 => .int
  | 2 => .int
  | 3 => .int
  | 4 => .int
  | 5 => .array .int
  | 6 => .array .int
  | 7 => .array .int
  | 8 => .array .int
  | 9 => .array .int
  | 10 => .array .int
  | _ => .array .int
abbrev wsX50 : List Cond := u_ws RX5 TX5 12
theorem nmX5 : ∀ a, a < 12 → ∀ b, b < 12 → a ≠ b → (TX5 a).2.1 ≠ (TX5 b).2.1 := by decide +kernel
theorem tyX5_ok : ∀ k, k < 12 → parseFieldDescriptor (TX5 k).2.2.1 = some (tyX5 k) := by decide +kernel
abbrev cX5_init : ByteArray := prog_7_method_1_code
def yX5_init : MethodName := ⟨RX5, "<init>", "()V"⟩
abbrev cX5_clear : ByteArray := prog_7_method_2_code
def yX5_clear : MethodName := ⟨RX5, "clear", "()V"⟩
abbrev cX5_become : ByteArray := prog_7_method_3_code
def yX5_become : MethodName := ⟨RX5, "become", "(LSheepSquare$Square;)V"⟩
abbrev cX5_goBackTo : ByteArray := prog_7_method_4_code
def yX5_goBackTo : MethodName := ⟨RX5, "goBackTo", "(LSheepSquare$Square;)V"⟩
abbrev cX5_isOff : ByteArray := prog_7_method_5_code
def yX5_isOff : MethodName := ⟨RX5, "isOff", "(I)Z"⟩
abbrev cX5_wake : ByteArray := prog_7_method_6_code
def yX5_wake : MethodName := ⟨RX5, "wake", "(I)V"⟩
abbrev cX5_startAnew : ByteArray := prog_7_method_7_code
def yX5_startAnew : MethodName := ⟨RX5, "startAnew", "(I)V"⟩
abbrev cX5_hears : ByteArray := prog_7_method_8_code
def yX5_hears : MethodName := ⟨RX5, "hears", "(II)Z"⟩
abbrev cX5_heardBy : ByteArray := prog_7_method_9_code
def yX5_heardBy : MethodName := ⟨RX5, "heardBy", "(I)I"⟩
abbrev cX5_placeOf : ByteArray := prog_7_method_10_code
def yX5_placeOf : MethodName := ⟨RX5, "placeOf", "(I)I"⟩
abbrev cX5_swap : ByteArray := prog_7_method_11_code
def yX5_swap : MethodName := ⟨RX5, "swap", "(II)V"⟩
abbrev cX5_goOn : ByteArray := prog_7_method_12_code
def yX5_goOn : MethodName := ⟨RX5, "goOn", "(I)V"⟩
abbrev cX5_hear : ByteArray := prog_7_method_13_code
def yX5_hear : MethodName := ⟨RX5, "hear", "(II)V"⟩
abbrev cX5_countMore : ByteArray := prog_7_method_14_code
def yX5_countMore : MethodName := ⟨RX5, "countMore", "(II)V"⟩
abbrev cX5_whatMatters : ByteArray := prog_7_method_15_code
def yX5_whatMatters : MethodName := ⟨RX5, "whatMatters", "(I)J"⟩
abbrev cX5_keepOnly : ByteArray := prog_7_method_16_code
def yX5_keepOnly : MethodName := ⟨RX5, "keepOnly", "(ILSheepSquare$Square;)V"⟩
abbrev cX5_lineUp : ByteArray := prog_7_method_17_code
def yX5_lineUp : MethodName := ⟨RX5, "lineUp", "()V"⟩
abbrev cX5_orderNext : ByteArray := prog_7_method_18_code
def yX5_orderNext : MethodName := ⟨RX5, "orderNext", "()Z"⟩
def RX6 : String := "SheepSquare"
def TX6 : u_T := fun k => match k with
  | 0 => ("SheepSquare", "rows", "LSheepSquare$Rows;", true)
  | 1 => ("SheepSquare", "reader", "LSheepSquare$Reader;", true)
  | 2 => ("SheepSquare", "now", "LSheepSquare$Square;", true)
  | 3 => ("SheepSquare", "firstImage", "LSheepSquare$Square;", true)
  | 4 => ("SheepSquare", "secondImage", "LSheepSquare$Square;", true)
  | 5 => ("SheepSquare", "acts", "LSheepSquare$Acts;", true)
  | 6 => ("SheepSquare", "foretold", "LSheepSquare$Foretold;", true)
  | 7 => ("SheepSquare", "asked", "LSheepSquare$Asked;", true)
  | _ => ("SheepSquare", "finding", "I", false)
def tyX6 : Nat → FieldType := fun k => match k with
  | 0 => .object "SheepSquare$Rows"
  | 1 => .object "SheepSquare$Reader"
  | 2 => .object "SheepSquare$Square"
  | 3 => .object "SheepSquare$Square"
  | 4 => .object "SheepSquare$Square"
  | 5 => .object "SheepSquare$Acts"
  | 6 => .object "SheepSquare$Foretold"
  | 7 => .object "SheepSquare$Asked"
  | _ => .int
abbrev wsX60 : List Cond := u_ws RX6 TX6 9
theorem nmX6 : ∀ a, a < 9 → ∀ b, b < 9 → a ≠ b → (TX6 a).2.1 ≠ (TX6 b).2.1 := by decide +kernel
theorem tyX6_ok : ∀ k, k < 9 → parseFieldDescriptor (TX6 k).2.2.1 = some (tyX6 k) := by decide +kernel
abbrev cX6_init : ByteArray := prog_1_method_1_code
def yX6_init : MethodName := ⟨RX6, "<init>", "()V"⟩
abbrev cX6_row : ByteArray := prog_1_method_2_code
def yX6_row : MethodName := ⟨RX6, "row", "(III)I"⟩
abbrev cX6_set : ByteArray := prog_1_method_3_code
def yX6_set : MethodName := ⟨RX6, "set", "(III)I"⟩
abbrev cX6_copy : ByteArray := prog_1_method_4_code
def yX6_copy : MethodName := ⟨RX6, "copy", "(IIIII)I"⟩
abbrev cX6_drop : ByteArray := prog_1_method_5_code
def yX6_drop : MethodName := ⟨RX6, "drop", "(I)I"⟩
abbrev cX6_feed : ByteArray := prog_1_method_6_code
def yX6_feed : MethodName := ⟨RX6, "feed", "(I)I"⟩
abbrev cX6_square : ByteArray := prog_1_method_7_code
def yX6_square : MethodName := ⟨RX6, "square", "()I"⟩
abbrev cX6_fault : ByteArray := prog_1_method_8_code
def yX6_fault : MethodName := ⟨RX6, "fault", "()I"⟩
abbrev cX6_steps : ByteArray := prog_1_method_9_code
def yX6_steps : MethodName := ⟨RX6, "steps", "(I)I"⟩
abbrev cX6_change : ByteArray := prog_1_method_10_code
def yX6_change : MethodName := ⟨RX6, "change", "(I)I"⟩
abbrev cX6_wind : ByteArray := prog_1_method_11_code
def yX6_wind : MethodName := ⟨RX6, "wind", "(I)I"⟩
abbrev cX6_cough : ByteArray := prog_1_method_12_code
def yX6_cough : MethodName := ⟨RX6, "cough", "(I)I"⟩
abbrev cX6_undo : ByteArray := prog_1_method_13_code
def yX6_undo : MethodName := ⟨RX6, "undo", "()I"⟩
abbrev cX6_sleeper : ByteArray := prog_1_method_14_code
def yX6_sleeper : MethodName := ⟨RX6, "sleeper", "(II)I"⟩
abbrev cX6_sheep : ByteArray := prog_1_method_15_code
def yX6_sheep : MethodName := ⟨RX6, "sheep", "(II)I"⟩
abbrev cX6_off : ByteArray := prog_1_method_16_code
def yX6_off : MethodName := ⟨RX6, "off", "(I)I"⟩
abbrev cX6_counted : ByteArray := prog_1_method_17_code
def yX6_counted : MethodName := ⟨RX6, "counted", "(II)I"⟩
abbrev cX6_when : ByteArray := prog_1_method_18_code
def yX6_when : MethodName := ⟨RX6, "when", "(I)I"⟩
abbrev cX6_all : ByteArray := prog_1_method_19_code
def yX6_all : MethodName := ⟨RX6, "all", "(I)I"⟩
abbrev cX6_never : ByteArray := prog_1_method_20_code
def yX6_never : MethodName := ⟨RX6, "never", "()I"⟩
abbrev cX6_quiet : ByteArray := prog_1_method_21_code
def yX6_quiet : MethodName := ⟨RX6, "quiet", "(I)I"⟩
abbrev cX6_order : ByteArray := prog_1_method_22_code
def yX6_order : MethodName := ⟨RX6, "order", "(II)I"⟩
abbrev cX6_fewest : ByteArray := prog_1_method_23_code
def yX6_fewest : MethodName := ⟨RX6, "fewest", "(III)I"⟩
abbrev cX6_missing : ByteArray := prog_1_method_24_code
def yX6_missing : MethodName := ⟨RX6, "missing", "(III)I"⟩
abbrev cX6_windy : ByteArray := prog_1_method_25_code
def yX6_windy : MethodName := ⟨RX6, "windy", "(III)I"⟩
abbrev cX6_sorts : ByteArray := prog_1_method_26_code
def yX6_sorts : MethodName := ⟨RX6, "sorts", "(IIII)I"⟩
abbrev cX6_stay : ByteArray := prog_1_method_27_code
def yX6_stay : MethodName := ⟨RX6, "stay", "(IIII)I"⟩
abbrev cX6_image : ByteArray := prog_1_method_28_code
def yX6_image : MethodName := ⟨RX6, "image", "(I)I"⟩
abbrev cX6_restore : ByteArray := prog_1_method_29_code
def yX6_restore : MethodName := ⟨RX6, "restore", "(I)I"⟩
abbrev cX6_kind : ByteArray := prog_1_method_30_code
def yX6_kind : MethodName := ⟨RX6, "kind", "(I)I"⟩
abbrev cX6_as : ByteArray := prog_1_method_31_code
def yX6_as : MethodName := ⟨RX6, "as", "(II)I"⟩
abbrev cX6_ask : ByteArray := prog_1_method_32_code
def yX6_ask : MethodName := ⟨RX6, "ask", "(II)I"⟩
abbrev cX6_trace : ByteArray := prog_1_method_33_code
def yX6_trace : MethodName := ⟨RX6, "trace", "(I)I"⟩
abbrev cX6_count : ByteArray := prog_1_method_34_code
def yX6_count : MethodName := ⟨RX6, "count", "(I)I"⟩
abbrev cX6_status : ByteArray := prog_1_method_35_code
def yX6_status : MethodName := ⟨RX6, "status", "()I"⟩
abbrev cX6_found : ByteArray := prog_1_method_36_code
def yX6_found : MethodName := ⟨RX6, "found", "(I)I"⟩
abbrev cX6_fine : ByteArray := prog_1_method_37_code
def yX6_fine : MethodName := ⟨RX6, "fine", "(I)I"⟩
abbrev cX6_noSquare : ByteArray := prog_1_method_38_code
def yX6_noSquare : MethodName := ⟨RX6, "noSquare", "()Z"⟩
abbrev cX6_noRow : ByteArray := prog_1_method_39_code
def yX6_noRow : MethodName := ⟨RX6, "noRow", "(I)Z"⟩
abbrev cX6_noSleeper : ByteArray := prog_1_method_40_code
def yX6_noSleeper : MethodName := ⟨RX6, "noSleeper", "(I)Z"⟩
abbrev cX6_noSleepers : ByteArray := prog_1_method_41_code
def yX6_noSleepers : MethodName := ⟨RX6, "noSleepers", "(I)Z"⟩
abbrev cX6_tooFar : ByteArray := prog_1_method_42_code
def yX6_tooFar : MethodName := ⟨RX6, "tooFar", "(I)Z"⟩
abbrev cX6_unreadable : ByteArray := prog_1_method_43_code
def yX6_unreadable : MethodName := ⟨RX6, "unreadable", "(III)I"⟩
abbrev cX6_imageOf : ByteArray := prog_1_method_44_code
def yX6_imageOf : MethodName := ⟨RX6, "imageOf", "(I)LSheepSquare$Square;"⟩
abbrev cX6_isOne : ByteArray := prog_1_method_45_code
def yX6_isOne : MethodName := ⟨RX6, "isOne", "(II)Z"⟩
abbrev cX6_greatestShared : ByteArray := prog_1_method_46_code
def yX6_greatestShared : MethodName := ⟨RX6, "greatestShared", "(II)I"⟩
def RX7 : String := "SheepSquareModel"
def TX7 : u_T := fun k => match k with
  | 0 => ("SheepSquareModel", "lane", "[I", true)
  | 1 => ("SheepSquareModel", "size", "[I", true)
  | 2 => ("SheepSquareModel", "items", "[I", true)
  | 3 => ("SheepSquareModel", "status", "I", false)
  | 4 => ("SheepSquareModel", "letters", "I", false)
  | 5 => ("SheepSquareModel", "tape", "[I", true)
  | 6 => ("SheepSquareModel", "position", "I", false)
  | 7 => ("SheepSquareModel", "tokenAt", "I", false)
  | 8 => ("SheepSquareModel", "token", "I", false)
  | 9 => ("SheepSquareModel", "number", "I", false)
  | 10 => ("SheepSquareModel", "faultIs", "I", false)
  | 11 => ("SheepSquareModel", "faultNow", "I", false)
  | 12 => ("SheepSquareModel", "now", "[I", true)
  | 13 => ("SheepSquareModel", "read", "[I", true)
  | 14 => ("SheepSquareModel", "tried", "[I", true)
  | 15 => ("SheepSquareModel", "image", "[I", true)
  | 16 => ("SheepSquareModel", "isKept", "[Z", true)
  | 17 => ("SheepSquareModel", "actOf", "[I", true)
  | 18 => ("SheepSquareModel", "acts", "I", false)
  | 19 => ("SheepSquareModel", "trace", "[I", true)
  | 20 => ("SheepSquareModel", "traceMany", "I", false)
  | 21 => ("SheepSquareModel", "told", "[I", true)
  | 22 => ("SheepSquareModel", "row", "[I", true)
  | 23 => ("SheepSquareModel", "bestRow", "[I", true)
  | _ => ("SheepSquareModel", "offAt", "[I", true)
def tyX7 : Nat → FieldType := fun k => match k with
  | 0 => .array .int
  | 1 => .array .int
  | 2 => .array .int
  | 3 => .int
  | 4 => .int
  | 5 => .array .int
  | 6 => .int
  | 7 => .int
  | 8 => .int
  | 9 => .int
  | 10 => .int
  | 11 => .int
  | 12 => .array .int
  | 13 => .array .int
  | 14 => .array .int
  | 15 => .array .int
  | 16 => .array .boolean
  | 17 => .array .int
  | 18 => .int
  | 19 => .array .int
  | 20 => .int
  | 21 => .array .int
  | 22 => .array .int
  | 23 => .array .int
  | _ => .array .int
abbrev wsX70 : List Cond := u_ws RX7 TX7 25
theorem nmX7 : ∀ a, a < 25 → ∀ b, b < 25 → a ≠ b → (TX7 a).2.1 ≠ (TX7 b).2.1 := by decide +kernel
theorem tyX7_ok : ∀ k, k < 25 → parseFieldDescriptor (TX7 k).2.2.1 = some (tyX7 k) := by decide +kernel
abbrev cX7_init : ByteArray := prog_9_method_1_code
def yX7_init : MethodName := ⟨RX7, "<init>", "()V"⟩
abbrev cX7_in : ByteArray := prog_9_method_2_code
def yX7_in : MethodName := ⟨RX7, "in", "(III)Z"⟩
abbrev cX7_has : ByteArray := prog_9_method_3_code
def yX7_has : MethodName := ⟨RX7, "has", "(II)Z"⟩
abbrev cX7_bits : ByteArray := prog_9_method_4_code
def yX7_bits : MethodName := ⟨RX7, "bits", "(I)I"⟩
abbrev cX7_lay : ByteArray := prog_9_method_5_code
def yX7_lay : MethodName := ⟨RX7, "lay", "([II[II)V"⟩
abbrev cX7_isSquare : ByteArray := prog_9_method_6_code
def yX7_isSquare : MethodName := ⟨RX7, "isSquare", "()Z"⟩
abbrev cX7_isOne : ByteArray := prog_9_method_7_code
def yX7_isOne : MethodName := ⟨RX7, "isOne", "(I)Z"⟩
abbrev cX7_isSet : ByteArray := prog_9_method_8_code
def yX7_isSet : MethodName := ⟨RX7, "isSet", "(I)Z"⟩
abbrev cX7_finds : ByteArray := prog_9_method_9_code
def yX7_finds : MethodName := ⟨RX7, "finds", "(I)I"⟩
abbrev cX7_done : ByteArray := prog_9_method_10_code
def yX7_done : MethodName := ⟨RX7, "done", "(I)I"⟩
abbrev cX7_isRow : ByteArray := prog_9_method_11_code
def yX7_isRow : MethodName := ⟨RX7, "isRow", "(I)Z"⟩
abbrev cX7_row : ByteArray := prog_9_method_12_code
def yX7_row : MethodName := ⟨RX7, "row", "(III)I"⟩
abbrev cX7_set : ByteArray := prog_9_method_13_code
def yX7_set : MethodName := ⟨RX7, "set", "(III)I"⟩
abbrev cX7_isPart : ByteArray := prog_9_method_14_code
def yX7_isPart : MethodName := ⟨RX7, "isPart", "(III)Z"⟩
abbrev cX7_copy : ByteArray := prog_9_method_15_code
def yX7_copy : MethodName := ⟨RX7, "copy", "(IIIII)I"⟩
abbrev cX7_drop : ByteArray := prog_9_method_16_code
def yX7_drop : MethodName := ⟨RX7, "drop", "(I)I"⟩
abbrev cX7_feed : ByteArray := prog_9_method_17_code
def yX7_feed : MethodName := ⟨RX7, "feed", "(I)I"⟩
abbrev cX7_nextToken : ByteArray := prog_9_method_18_code
def yX7_nextToken : MethodName := ⟨RX7, "nextToken", "()V"⟩
abbrev cX7_fails : ByteArray := prog_9_method_19_code
def yX7_fails : MethodName := ⟨RX7, "fails", "(I)Z"⟩
abbrev cX7_isSign : ByteArray := prog_9_method_20_code
def yX7_isSign : MethodName := ⟨RX7, "isSign", "(I)Z"⟩
abbrev cX7_isNumber : ByteArray := prog_9_method_21_code
def yX7_isNumber : MethodName := ⟨RX7, "isNumber", "(II)Z"⟩
abbrev cX7_isPair : ByteArray := prog_9_method_22_code
def yX7_isPair : MethodName := ⟨RX7, "isPair", "(IIIII)Z"⟩
abbrev cX7_sortBy : ByteArray := prog_9_method_23_code
def yX7_sortBy : MethodName := ⟨RX7, "sortBy", "(I)I"⟩
abbrev cX7_isItem : ByteArray := prog_9_method_24_code
def yX7_isItem : MethodName := ⟨RX7, "isItem", "()Z"⟩
abbrev cX7_isRead : ByteArray := prog_9_method_25_code
def yX7_isRead : MethodName := ⟨RX7, "isRead", "()Z"⟩
abbrev cX7_square : ByteArray := prog_9_method_26_code
def yX7_square : MethodName := ⟨RX7, "square", "()I"⟩
abbrev cX7_fault : ByteArray := prog_9_method_27_code
def yX7_fault : MethodName := ⟨RX7, "fault", "()I"⟩
abbrev cX7_note : ByteArray := prog_9_method_28_code
def yX7_note : MethodName := ⟨RX7, "note", "()V"⟩
abbrev cX7_hears : ByteArray := prog_9_method_29_code
def yX7_hears : MethodName := ⟨RX7, "hears", "([III)Z"⟩
abbrev cX7_countedBy : ByteArray := prog_9_method_30_code
def yX7_countedBy : MethodName := ⟨RX7, "countedBy", "([III)I"⟩
abbrev cX7_pass : ByteArray := prog_9_method_31_code
def yX7_pass : MethodName := ⟨RX7, "pass", "([II)V"⟩
abbrev cX7_offOf : ByteArray := prog_9_method_32_code
def yX7_offOf : MethodName := ⟨RX7, "offOf", "([I)I"⟩
abbrev cX7_flock : ByteArray := prog_9_method_33_code
def yX7_flock : MethodName := ⟨RX7, "flock", "()I"⟩
abbrev cX7_steps : ByteArray := prog_9_method_34_code
def yX7_steps : MethodName := ⟨RX7, "steps", "(I)I"⟩
abbrev cX7_change : ByteArray := prog_9_method_35_code
def yX7_change : MethodName := ⟨RX7, "change", "(I)I"⟩
abbrev cX7_wind : ByteArray := prog_9_method_36_code
def yX7_wind : MethodName := ⟨RX7, "wind", "(I)I"⟩
abbrev cX7_cough : ByteArray := prog_9_method_37_code
def yX7_cough : MethodName := ⟨RX7, "cough", "(I)I"⟩
abbrev cX7_undo : ByteArray := prog_9_method_38_code
def yX7_undo : MethodName := ⟨RX7, "undo", "()I"⟩
abbrev cX7_heardBy : ByteArray := prog_9_method_39_code
def yX7_heardBy : MethodName := ⟨RX7, "heardBy", "(I)I"⟩
abbrev cX7_sleeper : ByteArray := prog_9_method_40_code
def yX7_sleeper : MethodName := ⟨RX7, "sleeper", "(II)I"⟩
abbrev cX7_sheep : ByteArray := prog_9_method_41_code
def yX7_sheep : MethodName := ⟨RX7, "sheep", "(II)I"⟩
abbrev cX7_begin : ByteArray := prog_9_method_42_code
def yX7_begin : MethodName := ⟨RX7, "begin", "()V"⟩
abbrev cX7_goOn : ByteArray := prog_9_method_43_code
def yX7_goOn : MethodName := ⟨RX7, "goOn", "(I)V"⟩
abbrev cX7_off : ByteArray := prog_9_method_44_code
def yX7_off : MethodName := ⟨RX7, "off", "(I)I"⟩
abbrev cX7_counted : ByteArray := prog_9_method_45_code
def yX7_counted : MethodName := ⟨RX7, "counted", "(II)I"⟩
abbrev cX7_firstOf : ByteArray := prog_9_method_46_code
def yX7_firstOf : MethodName := ⟨RX7, "firstOf", "(III)I"⟩
abbrev cX7_when : ByteArray := prog_9_method_47_code
def yX7_when : MethodName := ⟨RX7, "when", "(I)I"⟩
abbrev cX7_all : ByteArray := prog_9_method_48_code
def yX7_all : MethodName := ⟨RX7, "all", "(I)I"⟩
abbrev cX7_layOff : ByteArray := prog_9_method_49_code
def yX7_layOff : MethodName := ⟨RX7, "layOff", "()V"⟩
abbrev cX7_never : ByteArray := prog_9_method_50_code
def yX7_never : MethodName := ⟨RX7, "never", "()I"⟩
abbrev cX7_quiet : ByteArray := prog_9_method_51_code
def yX7_quiet : MethodName := ⟨RX7, "quiet", "(I)I"⟩
abbrev cX7_layRow : ByteArray := prog_9_method_52_code
def yX7_layRow : MethodName := ⟨RX7, "layRow", "(I)V"⟩
abbrev cX7_order : ByteArray := prog_9_method_53_code
def yX7_order : MethodName := ⟨RX7, "order", "(II)I"⟩
abbrev cX7_fewest : ByteArray := prog_9_method_54_code
def yX7_fewest : MethodName := ⟨RX7, "fewest", "(III)I"⟩
abbrev cX7_takeOut : ByteArray := prog_9_method_55_code
def yX7_takeOut : MethodName := ⟨RX7, "takeOut", "(III)I"⟩
abbrev cX7_isSo : ByteArray := prog_9_method_56_code
def yX7_isSo : MethodName := ⟨RX7, "isSo", "(II)Z"⟩
abbrev cX7_missing : ByteArray := prog_9_method_57_code
def yX7_missing : MethodName := ⟨RX7, "missing", "(III)I"⟩
abbrev cX7_windy : ByteArray := prog_9_method_58_code
def yX7_windy : MethodName := ⟨RX7, "windy", "(III)I"⟩
abbrev cX7_sorts : ByteArray := prog_9_method_59_code
def yX7_sorts : MethodName := ⟨RX7, "sorts", "(IIII)I"⟩
abbrev cX7_stay : ByteArray := prog_9_method_60_code
def yX7_stay : MethodName := ⟨RX7, "stay", "(IIII)I"⟩
abbrev cX7_image : ByteArray := prog_9_method_61_code
def yX7_image : MethodName := ⟨RX7, "image", "(I)I"⟩
abbrev cX7_restore : ByteArray := prog_9_method_62_code
def yX7_restore : MethodName := ⟨RX7, "restore", "(I)I"⟩
abbrev cX7_kind : ByteArray := prog_9_method_63_code
def yX7_kind : MethodName := ⟨RX7, "kind", "(I)I"⟩
abbrev cX7_parentOf : ByteArray := prog_9_method_64_code
def yX7_parentOf : MethodName := ⟨RX7, "parentOf", "(I)I"⟩
abbrev cX7_as : ByteArray := prog_9_method_65_code
def yX7_as : MethodName := ⟨RX7, "as", "(II)I"⟩
abbrev cX7_begins : ByteArray := prog_9_method_66_code
def yX7_begins : MethodName := ⟨RX7, "begins", "(I)V"⟩
abbrev cX7_markPlain : ByteArray := prog_9_method_67_code
def yX7_markPlain : MethodName := ⟨RX7, "markPlain", "(I)I"⟩
abbrev cX7_markWarm : ByteArray := prog_9_method_68_code
def yX7_markWarm : MethodName := ⟨RX7, "markWarm", "(I)I"⟩
abbrev cX7_sizeNervous : ByteArray := prog_9_method_69_code
def yX7_sizeNervous : MethodName := ⟨RX7, "sizeNervous", "(I)I"⟩
abbrev cX7_sizeOf : ByteArray := prog_9_method_70_code
def yX7_sizeOf : MethodName := ⟨RX7, "sizeOf", "(I)I"⟩
abbrev cX7_markOf : ByteArray := prog_9_method_71_code
def yX7_markOf : MethodName := ⟨RX7, "markOf", "(I)I"⟩
abbrev cX7_ask : ByteArray := prog_9_method_72_code
def yX7_ask : MethodName := ⟨RX7, "ask", "(II)I"⟩
abbrev cX7_trace : ByteArray := prog_9_method_73_code
def yX7_trace : MethodName := ⟨RX7, "trace", "(I)I"⟩
abbrev cX7_count : ByteArray := prog_9_method_74_code
def yX7_count : MethodName := ⟨RX7, "count", "(I)I"⟩
abbrev cX7_status : ByteArray := prog_9_method_75_code
def yX7_status : MethodName := ⟨RX7, "status", "()I"⟩
def RJ6 : String := "java/lang/Integer"
abbrev cJ6_bitCount_0f7a4 : ByteArray := prog_10_method_49_code
def yJ6_bitCount_0f7a4 : MethodName := ⟨RJ6, "bitCount", "(I)I"⟩
def RJ9 : String := "java/lang/Math"
abbrev cJ9_min_7cf53 : ByteArray := prog_11_method_69_code
def yJ9_min_7cf53 : MethodName := ⟨RJ9, "min", "(II)I"⟩
def RL : String := "SheepSquareLaw"
abbrev cL_law : ByteArray := code
def yL_law : MethodName := ⟨RL, "law", "([I)Z"⟩
abbrev vwCl : List vw_C := [(RX0, TX0, 7), (RX1, TX1, 6), (RX2, TX2, 2), (RX3, TX3, 9), (RX4, TX4, 3), (RX5, TX5, 12), (RX6, TX6, 9), (RX7, TX7, 25)]
set_option maxRecDepth 100000 in
theorem inX0 : ∀ w ∈ wsX00, w ∈ lw_tbl := by decide +kernel
set_option maxRecDepth 100000 in
theorem inX1 : ∀ w ∈ wsX10, w ∈ lw_tbl := by decide +kernel
set_option maxRecDepth 100000 in
theorem inX2 : ∀ w ∈ wsX20, w ∈ lw_tbl := by decide +kernel
set_option maxRecDepth 100000 in
theorem inX3 : ∀ w ∈ wsX30, w ∈ lw_tbl := by decide +kernel
set_option maxRecDepth 100000 in
theorem inX4 : ∀ w ∈ wsX40, w ∈ lw_tbl := by decide +kernel
set_option maxRecDepth 100000 in
theorem inX5 : ∀ w ∈ wsX50, w ∈ lw_tbl := by decide +kernel
set_option maxRecDepth 100000 in
theorem inX6 : ∀ w ∈ wsX60, w ∈ lw_tbl := by decide +kernel
set_option maxRecDepth 100000 in
theorem inX7 : ∀ w ∈ wsX70, w ∈ lw_tbl := by decide +kernel
/-- the private members of nest mates -/
def k_nw : List Cond := [.methodLinkNest RX6 9 yX4_init RX6, .methodLinkNest RX6 18 yX3_init RX6, .methodLinkNest RX6 25 yX5_init RX6, .methodLinkNest RX6 38 yX0_init RX6, .methodLinkNest RX6 45 yX2_init RX6, .methodLinkNest RX2 11 yX5_init RX6, .methodLinkNest RX6 52 yX1_init RX6, .fieldLinkNest RX1 56 RX6 "ALSO" "[I" RX6]
set_option maxRecDepth 100000 in
theorem k_nw_in : ∀ w ∈ k_nw, w ∈ tables_1 := by decide +kernel
