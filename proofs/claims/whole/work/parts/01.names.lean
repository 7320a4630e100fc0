def lw_okq (q : MethodName × Nat) : Prop := (q.1.cls ≠ "java/lang/invoke/MethodHandle" ∧ q.1.cls ≠ "java/lang/invoke/VarHandle") ∧ Cond.instantiable q.1.cls q.2 ∈ tables_1 ∧ Cond.privateMethod q.1 ∈ tables_1 ∧ Cond.instanceMethod q.1 ∈ tables_1
theorem lw_p0 : lw_okq (⟨"SnoreCars$Text", "skipBlanks", "()V"⟩, 7) := ⟨⟨by decide +kernel, by decide +kernel⟩, List.mem_of_getElem? (i := 23) (by decide +kernel), List.mem_of_getElem? (i := 362) (by decide +kernel), List.mem_of_getElem? (i := 363) (by decide +kernel)⟩
theorem lw_p1 : lw_okq (⟨"SnoreCars$Text", "readClause", "(LSnoreCars$Train;)V"⟩, 7) := ⟨⟨by decide +kernel, by decide +kernel⟩, List.mem_of_getElem? (i := 23) (by decide +kernel), List.mem_of_getElem? (i := 369) (by decide +kernel), List.mem_of_getElem? (i := 370) (by decide +kernel)⟩
theorem lw_p2 : lw_okq (⟨"SnoreCars$Text", "letterHere", "()I"⟩, 7) := ⟨⟨by decide +kernel, by decide +kernel⟩, List.mem_of_getElem? (i := 23) (by decide +kernel), List.mem_of_getElem? (i := 373) (by decide +kernel), List.mem_of_getElem? (i := 374) (by decide +kernel)⟩
theorem lw_p3 : lw_okq (⟨"SnoreCars$Text", "faultOfWord", "(LSnoreCars$Train;I)I"⟩, 7) := ⟨⟨by decide +kernel, by decide +kernel⟩, List.mem_of_getElem? (i := 23) (by decide +kernel), List.mem_of_getElem? (i := 377) (by decide +kernel), List.mem_of_getElem? (i := 378) (by decide +kernel)⟩
theorem lw_p4 : lw_okq (⟨"SnoreCars$Text", "fail", "(II)V"⟩, 7) := ⟨⟨by decide +kernel, by decide +kernel⟩, List.mem_of_getElem? (i := 23) (by decide +kernel), List.mem_of_getElem? (i := 381) (by decide +kernel), List.mem_of_getElem? (i := 382) (by decide +kernel)⟩
theorem lw_p5 : lw_okq (⟨"SnoreCars$Text", "readCars", "(LSnoreCars$Train;)V"⟩, 7) := ⟨⟨by decide +kernel, by decide +kernel⟩, List.mem_of_getElem? (i := 23) (by decide +kernel), List.mem_of_getElem? (i := 385) (by decide +kernel), List.mem_of_getElem? (i := 386) (by decide +kernel)⟩
theorem lw_p6 : lw_okq (⟨"SnoreCars$Text", "readNumber", "(II)I"⟩, 7) := ⟨⟨by decide +kernel, by decide +kernel⟩, List.mem_of_getElem? (i := 23) (by decide +kernel), List.mem_of_getElem? (i := 389) (by decide +kernel), List.mem_of_getElem? (i := 390) (by decide +kernel)⟩
theorem lw_p7 : lw_okq (⟨"SnoreCars$Text", "readComma", "(Z)Z"⟩, 7) := ⟨⟨by decide +kernel, by decide +kernel⟩, List.mem_of_getElem? (i := 23) (by decide +kernel), List.mem_of_getElem? (i := 396) (by decide +kernel), List.mem_of_getElem? (i := 397) (by decide +kernel)⟩
theorem lw_p8 : lw_okq (⟨"SnoreCars$Text", "readSleeper", "(LSnoreCars$Train;)V"⟩, 7) := ⟨⟨by decide +kernel, by decide +kernel⟩, List.mem_of_getElem? (i := 23) (by decide +kernel), List.mem_of_getElem? (i := 400) (by decide +kernel), List.mem_of_getElem? (i := 401) (by decide +kernel)⟩
theorem lw_p9 : lw_okq (⟨"SnoreCars$Text", "readLaw", "(LSnoreCars$Train;)V"⟩, 7) := ⟨⟨by decide +kernel, by decide +kernel⟩, List.mem_of_getElem? (i := 23) (by decide +kernel), List.mem_of_getElem? (i := 404) (by decide +kernel), List.mem_of_getElem? (i := 405) (by decide +kernel)⟩
theorem lw_p10 : lw_okq (⟨"SnoreCars$Text", "readCouple", "(LSnoreCars$Train;)V"⟩, 7) := ⟨⟨by decide +kernel, by decide +kernel⟩, List.mem_of_getElem? (i := 23) (by decide +kernel), List.mem_of_getElem? (i := 408) (by decide +kernel), List.mem_of_getElem? (i := 409) (by decide +kernel)⟩
theorem lw_p11 : lw_okq (⟨"SnoreCars", "allSleepers", "()I"⟩, 18) := ⟨⟨by decide +kernel, by decide +kernel⟩, List.mem_of_getElem? (i := 15) (by decide +kernel), List.mem_of_getElem? (i := 446) (by decide +kernel), List.mem_of_getElem? (i := 447) (by decide +kernel)⟩
theorem lw_p12 : lw_okq (⟨"SnoreCars", "isNoCar", "(I)Z"⟩, 18) := ⟨⟨by decide +kernel, by decide +kernel⟩, List.mem_of_getElem? (i := 15) (by decide +kernel), List.mem_of_getElem? (i := 458) (by decide +kernel), List.mem_of_getElem? (i := 459) (by decide +kernel)⟩
theorem lw_p13 : lw_okq (⟨"SnoreCars", "snorersNow", "(I)I"⟩, 18) := ⟨⟨by decide +kernel, by decide +kernel⟩, List.mem_of_getElem? (i := 15) (by decide +kernel), List.mem_of_getElem? (i := 464) (by decide +kernel), List.mem_of_getElem? (i := 465) (by decide +kernel)⟩
theorem lw_p14 : lw_okq (⟨"SnoreCars", "isNoSleeper", "(I)Z"⟩, 18) := ⟨⟨by decide +kernel, by decide +kernel⟩, List.mem_of_getElem? (i := 15) (by decide +kernel), List.mem_of_getElem? (i := 480) (by decide +kernel), List.mem_of_getElem? (i := 481) (by decide +kernel)⟩
theorem lw_p15 : lw_okq (⟨"SnoreCars", "noiseNow", "(I)I"⟩, 18) := ⟨⟨by decide +kernel, by decide +kernel⟩, List.mem_of_getElem? (i := 15) (by decide +kernel), List.mem_of_getElem? (i := 487) (by decide +kernel), List.mem_of_getElem? (i := 488) (by decide +kernel)⟩
def lw_privs_1 : List (MethodName × Nat) := [(⟨"SnoreCars$Text", "skipBlanks", "()V"⟩, 7), (⟨"SnoreCars$Text", "readClause", "(LSnoreCars$Train;)V"⟩, 7), (⟨"SnoreCars$Text", "letterHere", "()I"⟩, 7), (⟨"SnoreCars$Text", "faultOfWord", "(LSnoreCars$Train;I)I"⟩, 7), (⟨"SnoreCars$Text", "fail", "(II)V"⟩, 7), (⟨"SnoreCars$Text", "readCars", "(LSnoreCars$Train;)V"⟩, 7), (⟨"SnoreCars$Text", "readNumber", "(II)I"⟩, 7), (⟨"SnoreCars$Text", "readComma", "(Z)Z"⟩, 7), (⟨"SnoreCars$Text", "readSleeper", "(LSnoreCars$Train;)V"⟩, 7), (⟨"SnoreCars$Text", "readLaw", "(LSnoreCars$Train;)V"⟩, 7), (⟨"SnoreCars$Text", "readCouple", "(LSnoreCars$Train;)V"⟩, 7), (⟨"SnoreCars", "allSleepers", "()I"⟩, 18), (⟨"SnoreCars", "isNoCar", "(I)Z"⟩, 18), (⟨"SnoreCars", "snorersNow", "(I)I"⟩, 18), (⟨"SnoreCars", "isNoSleeper", "(I)Z"⟩, 18), (⟨"SnoreCars", "noiseNow", "(I)I"⟩, 18)]
theorem lw_r1 : ∀ q ∈ lw_privs_1, lw_okq q := List.forall_mem_cons.mpr ⟨lw_p0, List.forall_mem_cons.mpr ⟨lw_p1, List.forall_mem_cons.mpr ⟨lw_p2, List.forall_mem_cons.mpr ⟨lw_p3, List.forall_mem_cons.mpr ⟨lw_p4, List.forall_mem_cons.mpr ⟨lw_p5, List.forall_mem_cons.mpr ⟨lw_p6, List.forall_mem_cons.mpr ⟨lw_p7, List.forall_mem_cons.mpr ⟨lw_p8, List.forall_mem_cons.mpr ⟨lw_p9, List.forall_mem_cons.mpr ⟨lw_p10, List.forall_mem_cons.mpr ⟨lw_p11, List.forall_mem_cons.mpr ⟨lw_p12, List.forall_mem_cons.mpr ⟨lw_p13, List.forall_mem_cons.mpr ⟨lw_p14, List.forall_mem_cons.mpr ⟨lw_p15, fun _ h => absurd h List.not_mem_nil⟩⟩⟩⟩⟩⟩⟩⟩⟩⟩⟩⟩⟩⟩⟩⟩
theorem lw_p16 : lw_okq (⟨"SnoreCars", "remember", "()V"⟩, 18) := ⟨⟨by decide +kernel, by decide +kernel⟩, List.mem_of_getElem? (i := 15) (by decide +kernel), List.mem_of_getElem? (i := 514) (by decide +kernel), List.mem_of_getElem? (i := 515) (by decide +kernel)⟩
theorem lw_p17 : lw_okq (⟨"SnoreCars", "passAnHour", "()V"⟩, 18) := ⟨⟨by decide +kernel, by decide +kernel⟩, List.mem_of_getElem? (i := 15) (by decide +kernel), List.mem_of_getElem? (i := 536) (by decide +kernel), List.mem_of_getElem? (i := 537) (by decide +kernel)⟩
theorem lw_p18 : lw_okq (⟨"SnoreCars$Ear", "woken", "(II)I"⟩, 6) := ⟨⟨by decide +kernel, by decide +kernel⟩, List.mem_of_getElem? (i := 135) (by decide +kernel), List.mem_of_getElem? (i := 545) (by decide +kernel), List.mem_of_getElem? (i := 546) (by decide +kernel)⟩
theorem lw_p19 : lw_okq (⟨"SnoreCars$MakingUp", "gatherUnits", "(LSnoreCars$Train;)I"⟩, 8) := ⟨⟨by decide +kernel, by decide +kernel⟩, List.mem_of_getElem? (i := 204) (by decide +kernel), List.mem_of_getElem? (i := 599) (by decide +kernel), List.mem_of_getElem? (i := 600) (by decide +kernel)⟩
theorem lw_p20 : lw_okq (⟨"SnoreCars$MakingUp", "weigh", "(LSnoreCars$Train;LSnoreCars$Ear;)V"⟩, 8) := ⟨⟨by decide +kernel, by decide +kernel⟩, List.mem_of_getElem? (i := 204) (by decide +kernel), List.mem_of_getElem? (i := 606) (by decide +kernel), List.mem_of_getElem? (i := 607) (by decide +kernel)⟩
theorem lw_p21 : lw_okq (⟨"SnoreCars$MakingUp", "wakersOf", "(LSnoreCars$Ear;I)I"⟩, 8) := ⟨⟨by decide +kernel, by decide +kernel⟩, List.mem_of_getElem? (i := 204) (by decide +kernel), List.mem_of_getElem? (i := 611) (by decide +kernel), List.mem_of_getElem? (i := 612) (by decide +kernel)⟩
theorem lw_p22 : lw_okq (⟨"SnoreCars$MakingUp", "stepOn", "(I)Z"⟩, 8) := ⟨⟨by decide +kernel, by decide +kernel⟩, List.mem_of_getElem? (i := 204) (by decide +kernel), List.mem_of_getElem? (i := 616) (by decide +kernel), List.mem_of_getElem? (i := 617) (by decide +kernel)⟩
theorem lw_p23 : lw_okq (⟨"SnoreCars$Shunting", "isQuiet", "(LSnoreCars$Ear;LSnoreCars$Night;)Z"⟩, 5) := ⟨⟨by decide +kernel, by decide +kernel⟩, List.mem_of_getElem? (i := 238) (by decide +kernel), List.mem_of_getElem? (i := 630) (by decide +kernel), List.mem_of_getElem? (i := 631) (by decide +kernel)⟩
theorem lw_p24 : lw_okq (⟨"SnoreCars$Steps", "append", "(IIII)V"⟩, 5) := ⟨⟨by decide +kernel, by decide +kernel⟩, List.mem_of_getElem? (i := 244) (by decide +kernel), List.mem_of_getElem? (i := 642) (by decide +kernel), List.mem_of_getElem? (i := 643) (by decide +kernel)⟩
theorem lw_p25 : lw_okq (⟨"SnoreCars$Shunting", "firstQuiet", "(LSnoreCars$Steps;LSnoreCars$Ear;LSnoreCars$Night;)I"⟩, 5) := ⟨⟨by decide +kernel, by decide +kernel⟩, List.mem_of_getElem? (i := 238) (by decide +kernel), List.mem_of_getElem? (i := 647) (by decide +kernel), List.mem_of_getElem? (i := 648) (by decide +kernel)⟩
theorem lw_p26 : lw_okq (⟨"SnoreCars", "isNoSet", "(I)Z"⟩, 18) := ⟨⟨by decide +kernel, by decide +kernel⟩, List.mem_of_getElem? (i := 15) (by decide +kernel), List.mem_of_getElem? (i := 660) (by decide +kernel), List.mem_of_getElem? (i := 661) (by decide +kernel)⟩
theorem lw_p27 : lw_okq (⟨"SnoreCars", "testPitch", "(I)I"⟩, 18) := ⟨⟨by decide +kernel, by decide +kernel⟩, List.mem_of_getElem? (i := 15) (by decide +kernel), List.mem_of_getElem? (i := 669) (by decide +kernel), List.mem_of_getElem? (i := 670) (by decide +kernel)⟩
theorem lw_p28 : lw_okq (⟨"SnoreCars", "isAlikeBy", "(III)Z"⟩, 18) := ⟨⟨by decide +kernel, by decide +kernel⟩, List.mem_of_getElem? (i := 15) (by decide +kernel), List.mem_of_getElem? (i := 690) (by decide +kernel), List.mem_of_getElem? (i := 691) (by decide +kernel)⟩
theorem lw_p29 : lw_okq (⟨"SnoreCars", "manyAt", "(II)I"⟩, 18) := ⟨⟨by decide +kernel, by decide +kernel⟩, List.mem_of_getElem? (i := 15) (by decide +kernel), List.mem_of_getElem? (i := 694) (by decide +kernel), List.mem_of_getElem? (i := 695) (by decide +kernel)⟩
theorem lw_p30 : lw_okq (⟨"SnoreCars", "loudOf", "(I)I"⟩, 18) := ⟨⟨by decide +kernel, by decide +kernel⟩, List.mem_of_getElem? (i := 15) (by decide +kernel), List.mem_of_getElem? (i := 702) (by decide +kernel), List.mem_of_getElem? (i := 703) (by decide +kernel)⟩
theorem lw_p31 : lw_okq (⟨"SnoreCars", "chordOf", "(I)I"⟩, 18) := ⟨⟨by decide +kernel, by decide +kernel⟩, List.mem_of_getElem? (i := 15) (by decide +kernel), List.mem_of_getElem? (i := 706) (by decide +kernel), List.mem_of_getElem? (i := 707) (by decide +kernel)⟩
def lw_privs_2 : List (MethodName × Nat) := [(⟨"SnoreCars", "remember", "()V"⟩, 18), (⟨"SnoreCars", "passAnHour", "()V"⟩, 18), (⟨"SnoreCars$Ear", "woken", "(II)I"⟩, 6), (⟨"SnoreCars$MakingUp", "gatherUnits", "(LSnoreCars$Train;)I"⟩, 8), (⟨"SnoreCars$MakingUp", "weigh", "(LSnoreCars$Train;LSnoreCars$Ear;)V"⟩, 8), (⟨"SnoreCars$MakingUp", "wakersOf", "(LSnoreCars$Ear;I)I"⟩, 8), (⟨"SnoreCars$MakingUp", "stepOn", "(I)Z"⟩, 8), (⟨"SnoreCars$Shunting", "isQuiet", "(LSnoreCars$Ear;LSnoreCars$Night;)Z"⟩, 5), (⟨"SnoreCars$Steps", "append", "(IIII)V"⟩, 5), (⟨"SnoreCars$Shunting", "firstQuiet", "(LSnoreCars$Steps;LSnoreCars$Ear;LSnoreCars$Night;)I"⟩, 5), (⟨"SnoreCars", "isNoSet", "(I)Z"⟩, 18), (⟨"SnoreCars", "testPitch", "(I)I"⟩, 18), (⟨"SnoreCars", "isAlikeBy", "(III)Z"⟩, 18), (⟨"SnoreCars", "manyAt", "(II)I"⟩, 18), (⟨"SnoreCars", "loudOf", "(I)I"⟩, 18), (⟨"SnoreCars", "chordOf", "(I)I"⟩, 18)]
theorem lw_r2 : ∀ q ∈ lw_privs_2, lw_okq q := List.forall_mem_cons.mpr ⟨lw_p16, List.forall_mem_cons.mpr ⟨lw_p17, List.forall_mem_cons.mpr ⟨lw_p18, List.forall_mem_cons.mpr ⟨lw_p19, List.forall_mem_cons.mpr ⟨lw_p20, List.forall_mem_cons.mpr ⟨lw_p21, List.forall_mem_cons.mpr ⟨lw_p22, List.forall_mem_cons.mpr ⟨lw_p23, List.forall_mem_cons.mpr ⟨lw_p24, List.forall_mem_cons.mpr ⟨lw_p25, List.forall_mem_cons.mpr ⟨lw_p26, List.forall_mem_cons.mpr ⟨lw_p27, List.forall_mem_cons.mpr ⟨lw_p28, List.forall_mem_cons.mpr ⟨lw_p29, List.forall_mem_cons.mpr ⟨lw_p30, List.forall_mem_cons.mpr ⟨lw_p31, fun _ h => absurd h List.not_mem_nil⟩⟩⟩⟩⟩⟩⟩⟩⟩⟩⟩⟩⟩⟩⟩⟩
theorem lw_p32 : lw_okq (⟨"SnoreCarsModel", "isRead", "()Z"⟩, 37) := ⟨⟨by decide +kernel, by decide +kernel⟩, List.mem_of_getElem? (i := 741) (by decide +kernel), List.mem_of_getElem? (i := 876) (by decide +kernel), List.mem_of_getElem? (i := 877) (by decide +kernel)⟩
theorem lw_p33 : lw_okq (⟨"SnoreCarsModel", "nextToken", "()V"⟩, 37) := ⟨⟨by decide +kernel, by decide +kernel⟩, List.mem_of_getElem? (i := 741) (by decide +kernel), List.mem_of_getElem? (i := 880) (by decide +kernel), List.mem_of_getElem? (i := 881) (by decide +kernel)⟩
theorem lw_p34 : lw_okq (⟨"SnoreCarsModel", "isClause", "()Z"⟩, 37) := ⟨⟨by decide +kernel, by decide +kernel⟩, List.mem_of_getElem? (i := 741) (by decide +kernel), List.mem_of_getElem? (i := 884) (by decide +kernel), List.mem_of_getElem? (i := 885) (by decide +kernel)⟩
theorem lw_p35 : lw_okq (⟨"SnoreCarsModel", "fails", "(I)Z"⟩, 37) := ⟨⟨by decide +kernel, by decide +kernel⟩, List.mem_of_getElem? (i := 741) (by decide +kernel), List.mem_of_getElem? (i := 888) (by decide +kernel), List.mem_of_getElem? (i := 889) (by decide +kernel)⟩
theorem lw_p36 : lw_okq (⟨"SnoreCarsModel", "areCars", "()Z"⟩, 37) := ⟨⟨by decide +kernel, by decide +kernel⟩, List.mem_of_getElem? (i := 741) (by decide +kernel), List.mem_of_getElem? (i := 892) (by decide +kernel), List.mem_of_getElem? (i := 893) (by decide +kernel)⟩
theorem lw_p37 : lw_okq (⟨"SnoreCarsModel", "isNumber", "(II)Z"⟩, 37) := ⟨⟨by decide +kernel, by decide +kernel⟩, List.mem_of_getElem? (i := 741) (by decide +kernel), List.mem_of_getElem? (i := 896) (by decide +kernel), List.mem_of_getElem? (i := 897) (by decide +kernel)⟩
theorem lw_p38 : lw_okq (⟨"SnoreCarsModel", "isSleeper", "()Z"⟩, 37) := ⟨⟨by decide +kernel, by decide +kernel⟩, List.mem_of_getElem? (i := 741) (by decide +kernel), List.mem_of_getElem? (i := 900) (by decide +kernel), List.mem_of_getElem? (i := 901) (by decide +kernel)⟩
theorem lw_p39 : lw_okq (⟨"SnoreCarsModel", "isEnd", "()Z"⟩, 37) := ⟨⟨by decide +kernel, by decide +kernel⟩, List.mem_of_getElem? (i := 741) (by decide +kernel), List.mem_of_getElem? (i := 904) (by decide +kernel), List.mem_of_getElem? (i := 905) (by decide +kernel)⟩
theorem lw_p40 : lw_okq (⟨"SnoreCarsModel", "areIntervals", "()Z"⟩, 37) := ⟨⟨by decide +kernel, by decide +kernel⟩, List.mem_of_getElem? (i := 741) (by decide +kernel), List.mem_of_getElem? (i := 908) (by decide +kernel), List.mem_of_getElem? (i := 909) (by decide +kernel)⟩
theorem lw_p41 : lw_okq (⟨"SnoreCarsModel", "isCouple", "()Z"⟩, 37) := ⟨⟨by decide +kernel, by decide +kernel⟩, List.mem_of_getElem? (i := 741) (by decide +kernel), List.mem_of_getElem? (i := 912) (by decide +kernel), List.mem_of_getElem? (i := 913) (by decide +kernel)⟩
theorem lw_p42 : lw_okq (⟨"SnoreCarsModel", "isMate", "(I)Z"⟩, 37) := ⟨⟨by decide +kernel, by decide +kernel⟩, List.mem_of_getElem? (i := 741) (by decide +kernel), List.mem_of_getElem? (i := 916) (by decide +kernel), List.mem_of_getElem? (i := 917) (by decide +kernel)⟩
theorem lw_p43 : lw_okq (⟨"SnoreCarsModel", "thereIn", "([II)I"⟩, 37) := ⟨⟨by decide +kernel, by decide +kernel⟩, List.mem_of_getElem? (i := 741) (by decide +kernel), List.mem_of_getElem? (i := 928) (by decide +kernel), List.mem_of_getElem? (i := 929) (by decide +kernel)⟩
theorem lw_p44 : lw_okq (⟨"SnoreCarsModel", "isCar", "(I)Z"⟩, 37) := ⟨⟨by decide +kernel, by decide +kernel⟩, List.mem_of_getElem? (i := 741) (by decide +kernel), List.mem_of_getElem? (i := 936) (by decide +kernel), List.mem_of_getElem? (i := 937) (by decide +kernel)⟩
theorem lw_p45 : lw_okq (⟨"SnoreCarsModel", "isOut", "([III)Z"⟩, 37) := ⟨⟨by decide +kernel, by decide +kernel⟩, List.mem_of_getElem? (i := 741) (by decide +kernel), List.mem_of_getElem? (i := 941) (by decide +kernel), List.mem_of_getElem? (i := 942) (by decide +kernel)⟩
theorem lw_p46 : lw_okq (⟨"SnoreCarsModel", "snorers", "([III)I"⟩, 37) := ⟨⟨by decide +kernel, by decide +kernel⟩, List.mem_of_getElem? (i := 741) (by decide +kernel), List.mem_of_getElem? (i := 945) (by decide +kernel), List.mem_of_getElem? (i := 946) (by decide +kernel)⟩
theorem lw_p47 : lw_okq (⟨"SnoreCarsModel", "snores", "([III)Z"⟩, 37) := ⟨⟨by decide +kernel, by decide +kernel⟩, List.mem_of_getElem? (i := 741) (by decide +kernel), List.mem_of_getElem? (i := 949) (by decide +kernel), List.mem_of_getElem? (i := 950) (by decide +kernel)⟩
def lw_privs_3 : List (MethodName × Nat) := [(⟨"SnoreCarsModel", "isRead", "()Z"⟩, 37), (⟨"SnoreCarsModel", "nextToken", "()V"⟩, 37), (⟨"SnoreCarsModel", "isClause", "()Z"⟩, 37), (⟨"SnoreCarsModel", "fails", "(I)Z"⟩, 37), (⟨"SnoreCarsModel", "areCars", "()Z"⟩, 37), (⟨"SnoreCarsModel", "isNumber", "(II)Z"⟩, 37), (⟨"SnoreCarsModel", "isSleeper", "()Z"⟩, 37), (⟨"SnoreCarsModel", "isEnd", "()Z"⟩, 37), (⟨"SnoreCarsModel", "areIntervals", "()Z"⟩, 37), (⟨"SnoreCarsModel", "isCouple", "()Z"⟩, 37), (⟨"SnoreCarsModel", "isMate", "(I)Z"⟩, 37), (⟨"SnoreCarsModel", "thereIn", "([II)I"⟩, 37), (⟨"SnoreCarsModel", "isCar", "(I)Z"⟩, 37), (⟨"SnoreCarsModel", "isOut", "([III)Z"⟩, 37), (⟨"SnoreCarsModel", "snorers", "([III)I"⟩, 37), (⟨"SnoreCarsModel", "snores", "([III)Z"⟩, 37)]
theorem lw_r3 : ∀ q ∈ lw_privs_3, lw_okq q := List.forall_mem_cons.mpr ⟨lw_p32, List.forall_mem_cons.mpr ⟨lw_p33, List.forall_mem_cons.mpr ⟨lw_p34, List.forall_mem_cons.mpr ⟨lw_p35, List.forall_mem_cons.mpr ⟨lw_p36, List.forall_mem_cons.mpr ⟨lw_p37, List.forall_mem_cons.mpr ⟨lw_p38, List.forall_mem_cons.mpr ⟨lw_p39, List.forall_mem_cons.mpr ⟨lw_p40, List.forall_mem_cons.mpr ⟨lw_p41, List.forall_mem_cons.mpr ⟨lw_p42, List.forall_mem_cons.mpr ⟨lw_p43, List.forall_mem_cons.mpr ⟨lw_p44, List.forall_mem_cons.mpr ⟨lw_p45, List.forall_mem_cons.mpr ⟨lw_p46, List.forall_mem_cons.mpr ⟨lw_p47, fun _ h => absurd h List.not_mem_nil⟩⟩⟩⟩⟩⟩⟩⟩⟩⟩⟩⟩⟩⟩⟩⟩
theorem lw_p48 : lw_okq (⟨"SnoreCarsModel", "pitchOf", "(I)I"⟩, 37) := ⟨⟨by decide +kernel, by decide +kernel⟩, List.mem_of_getElem? (i := 741) (by decide +kernel), List.mem_of_getElem? (i := 956) (by decide +kernel), List.mem_of_getElem? (i := 957) (by decide +kernel)⟩
theorem lw_p49 : lw_okq (⟨"SnoreCarsModel", "isOne", "(I)Z"⟩, 37) := ⟨⟨by decide +kernel, by decide +kernel⟩, List.mem_of_getElem? (i := 741) (by decide +kernel), List.mem_of_getElem? (i := 967) (by decide +kernel), List.mem_of_getElem? (i := 968) (by decide +kernel)⟩
theorem lw_p50 : lw_okq (⟨"SnoreCarsModel", "noiseFor", "([III)I"⟩, 37) := ⟨⟨by decide +kernel, by decide +kernel⟩, List.mem_of_getElem? (i := 741) (by decide +kernel), List.mem_of_getElem? (i := 971) (by decide +kernel), List.mem_of_getElem? (i := 972) (by decide +kernel)⟩
theorem lw_p51 : lw_okq (⟨"SnoreCarsModel", "note", "()V"⟩, 37) := ⟨⟨by decide +kernel, by decide +kernel⟩, List.mem_of_getElem? (i := 741) (by decide +kernel), List.mem_of_getElem? (i := 987) (by decide +kernel), List.mem_of_getElem? (i := 988) (by decide +kernel)⟩
theorem lw_p52 : lw_okq (⟨"SnoreCarsModel", "pass", "([I)V"⟩, 37) := ⟨⟨by decide +kernel, by decide +kernel⟩, List.mem_of_getElem? (i := 741) (by decide +kernel), List.mem_of_getElem? (i := 1002) (by decide +kernel), List.mem_of_getElem? (i := 1003) (by decide +kernel)⟩
theorem lw_p53 : lw_okq (⟨"SnoreCarsModel", "draw", "(I)I"⟩, 37) := ⟨⟨by decide +kernel, by decide +kernel⟩, List.mem_of_getElem? (i := 741) (by decide +kernel), List.mem_of_getElem? (i := 1014) (by decide +kernel), List.mem_of_getElem? (i := 1015) (by decide +kernel)⟩
theorem lw_p54 : lw_okq (⟨"SnoreCarsModel", "morning", "()I"⟩, 37) := ⟨⟨by decide +kernel, by decide +kernel⟩, List.mem_of_getElem? (i := 741) (by decide +kernel), List.mem_of_getElem? (i := 1030) (by decide +kernel), List.mem_of_getElem? (i := 1031) (by decide +kernel)⟩
theorem lw_p55 : lw_okq (⟨"SnoreCarsModel", "sleepOn", "([I)V"⟩, 37) := ⟨⟨by decide +kernel, by decide +kernel⟩, List.mem_of_getElem? (i := 741) (by decide +kernel), List.mem_of_getElem? (i := 1034) (by decide +kernel), List.mem_of_getElem? (i := 1035) (by decide +kernel)⟩
theorem lw_p56 : lw_okq (⟨"SnoreCarsModel", "lays", "(I)Z"⟩, 37) := ⟨⟨by decide +kernel, by decide +kernel⟩, List.mem_of_getElem? (i := 741) (by decide +kernel), List.mem_of_getElem? (i := 1046) (by decide +kernel), List.mem_of_getElem? (i := 1047) (by decide +kernel)⟩
theorem lw_p57 : lw_okq (⟨"SnoreCarsModel", "layMoves", "()V"⟩, 37) := ⟨⟨by decide +kernel, by decide +kernel⟩, List.mem_of_getElem? (i := 741) (by decide +kernel), List.mem_of_getElem? (i := 1054) (by decide +kernel), List.mem_of_getElem? (i := 1055) (by decide +kernel)⟩
theorem lw_p58 : lw_okq (⟨"SnoreCarsModel", "nobodyWakes", "()Z"⟩, 37) := ⟨⟨by decide +kernel, by decide +kernel⟩, List.mem_of_getElem? (i := 741) (by decide +kernel), List.mem_of_getElem? (i := 1058) (by decide +kernel), List.mem_of_getElem? (i := 1059) (by decide +kernel)⟩
theorem lw_p59 : lw_okq (⟨"SnoreCarsModel", "move", "(I)Z"⟩, 37) := ⟨⟨by decide +kernel, by decide +kernel⟩, List.mem_of_getElem? (i := 741) (by decide +kernel), List.mem_of_getElem? (i := 1062) (by decide +kernel), List.mem_of_getElem? (i := 1063) (by decide +kernel)⟩
theorem lw_p60 : lw_okq (⟨"SnoreCarsModel", "isSet", "(I)Z"⟩, 37) := ⟨⟨by decide +kernel, by decide +kernel⟩, List.mem_of_getElem? (i := 741) (by decide +kernel), List.mem_of_getElem? (i := 1070) (by decide +kernel), List.mem_of_getElem? (i := 1071) (by decide +kernel)⟩
theorem lw_p61 : lw_okq (⟨"SnoreCarsModel", "begin", "()V"⟩, 37) := ⟨⟨by decide +kernel, by decide +kernel⟩, List.mem_of_getElem? (i := 741) (by decide +kernel), List.mem_of_getElem? (i := 1074) (by decide +kernel), List.mem_of_getElem? (i := 1075) (by decide +kernel)⟩
theorem lw_p62 : lw_okq (⟨"SnoreCarsModel", "pitchesOf", "(II)I"⟩, 37) := ⟨⟨by decide +kernel, by decide +kernel⟩, List.mem_of_getElem? (i := 741) (by decide +kernel), List.mem_of_getElem? (i := 1082) (by decide +kernel), List.mem_of_getElem? (i := 1083) (by decide +kernel)⟩
def lw_privs_4 : List (MethodName × Nat) := [(⟨"SnoreCarsModel", "pitchOf", "(I)I"⟩, 37), (⟨"SnoreCarsModel", "isOne", "(I)Z"⟩, 37), (⟨"SnoreCarsModel", "noiseFor", "([III)I"⟩, 37), (⟨"SnoreCarsModel", "note", "()V"⟩, 37), (⟨"SnoreCarsModel", "pass", "([I)V"⟩, 37), (⟨"SnoreCarsModel", "draw", "(I)I"⟩, 37), (⟨"SnoreCarsModel", "morning", "()I"⟩, 37), (⟨"SnoreCarsModel", "sleepOn", "([I)V"⟩, 37), (⟨"SnoreCarsModel", "lays", "(I)Z"⟩, 37), (⟨"SnoreCarsModel", "layMoves", "()V"⟩, 37), (⟨"SnoreCarsModel", "nobodyWakes", "()Z"⟩, 37), (⟨"SnoreCarsModel", "move", "(I)Z"⟩, 37), (⟨"SnoreCarsModel", "isSet", "(I)Z"⟩, 37), (⟨"SnoreCarsModel", "begin", "()V"⟩, 37), (⟨"SnoreCarsModel", "pitchesOf", "(II)I"⟩, 37)]
theorem lw_r4 : ∀ q ∈ lw_privs_4, lw_okq q := List.forall_mem_cons.mpr ⟨lw_p48, List.forall_mem_cons.mpr ⟨lw_p49, List.forall_mem_cons.mpr ⟨lw_p50, List.forall_mem_cons.mpr ⟨lw_p51, List.forall_mem_cons.mpr ⟨lw_p52, List.forall_mem_cons.mpr ⟨lw_p53, List.forall_mem_cons.mpr ⟨lw_p54, List.forall_mem_cons.mpr ⟨lw_p55, List.forall_mem_cons.mpr ⟨lw_p56, List.forall_mem_cons.mpr ⟨lw_p57, List.forall_mem_cons.mpr ⟨lw_p58, List.forall_mem_cons.mpr ⟨lw_p59, List.forall_mem_cons.mpr ⟨lw_p60, List.forall_mem_cons.mpr ⟨lw_p61, List.forall_mem_cons.mpr ⟨lw_p62, fun _ h => absurd h List.not_mem_nil⟩⟩⟩⟩⟩⟩⟩⟩⟩⟩⟩⟩⟩⟩⟩
def lw_privs : List (MethodName × Nat) := lw_privs_1 ++ (lw_privs_2 ++ (lw_privs_3 ++ (lw_privs_4)))
def lw_tbl : List Cond := k2_sels lw_privs ++ tables_1
theorem lw_privs_ok : ∀ q ∈ lw_privs, lw_okq q := by
  show ∀ q ∈ lw_privs_1 ++ (lw_privs_2 ++ (lw_privs_3 ++ (lw_privs_4))), lw_okq q
  exact List.forall_mem_append.mpr ⟨lw_r1, List.forall_mem_append.mpr ⟨lw_r2, List.forall_mem_append.mpr ⟨lw_r3, lw_r4⟩⟩⟩

def RX0 : String := "SnoreCars$Ear"
def TX0 : u_T := fun k => match k with
  | 0 => ("SnoreCars$Ear", "sleepers", "I", false)
  | 1 => ("SnoreCars$Ear", "pitch", "[I", true)
  | 2 => ("SnoreCars$Ear", "loud", "[I", true)
  | 3 => ("SnoreCars$Ear", "depth", "[I", true)
  | 4 => ("SnoreCars$Ear", "jarring", "[I", true)
  | _ => ("SnoreCars$Ear", "snoringAt", "[I", true)
def tyX0 : Nat → FieldType := fun k => match k with
  | 0 => .int
  | 1 => .array .int
  | 2 => .array .int
  | 3 => .array .int
  | 4 => .array .int
  | _ => .array .int
abbrev wsX00 : List Cond := u_ws RX0 TX0 6
theorem nmX0 : ∀ a, a < 6 → ∀ b, b < 6 → a ≠ b → (TX0 a).2.1 ≠ (TX0 b).2.1 := by decide +kernel
theorem tyX0_ok : ∀ k, k < 6 → parseFieldDescriptor (TX0 k).2.2.1 = some (tyX0 k) := by decide +kernel
abbrev cX0_init : ByteArray := prog_2_method_1_code
def yX0_init : MethodName := ⟨RX0, "<init>", "()V"⟩
abbrev cX0_listen : ByteArray := prog_2_method_2_code
def yX0_listen : MethodName := ⟨RX0, "listen", "(LSnoreCars$Train;)V"⟩
abbrev cX0_tune : ByteArray := prog_2_method_3_code
def yX0_tune : MethodName := ⟨RX0, "tune", "(I)V"⟩
abbrev cX0_snorers : ByteArray := prog_2_method_4_code
def yX0_snorers : MethodName := ⟨RX0, "snorers", "(III)I"⟩
abbrev cX0_noise : ByteArray := prog_2_method_5_code
def yX0_noise : MethodName := ⟨RX0, "noise", "(II)I"⟩
abbrev cX0_isOutOfTune : ByteArray := prog_2_method_6_code
def yX0_isOutOfTune : MethodName := ⟨RX0, "isOutOfTune", "(I)Z"⟩
abbrev cX0_afterHour : ByteArray := prog_2_method_7_code
def yX0_afterHour : MethodName := ⟨RX0, "afterHour", "([III)I"⟩
abbrev cX0_morning : ByteArray := prog_2_method_8_code
def yX0_morning : MethodName := ⟨RX0, "morning", "([III)I"⟩
abbrev cX0_morningOfOne : ByteArray := prog_2_method_9_code
def yX0_morningOfOne : MethodName := ⟨RX0, "morningOfOne", "(III)I"⟩
abbrev cX0_woken : ByteArray := prog_2_method_10_code
def yX0_woken : MethodName := ⟨RX0, "woken", "(II)I"⟩
def RX1 : String := "SnoreCars$MakingUp"
def TX1 : u_T := fun k => match k with
  | 0 => ("SnoreCars$MakingUp", "known", "Z", false)
  | 1 => ("SnoreCars$MakingUp", "fewest", "I", false)
  | 2 => ("SnoreCars$MakingUp", "best", "[I", true)
  | 3 => ("SnoreCars$MakingUp", "crews", "[I", true)
  | 4 => ("SnoreCars$MakingUp", "units", "[I", true)
  | 5 => ("SnoreCars$MakingUp", "unitCars", "[I", true)
  | 6 => ("SnoreCars$MakingUp", "wakers", "[I", true)
  | _ => ("SnoreCars$MakingUp", "manyUnits", "I", false)
def tyX1 : Nat → FieldType := fun k => match k with
  | 0 => .boolean
  | 1 => .int
  | 2 => .array .int
  | 3 => .array .int
  | 4 => .array .int
  | 5 => .array .int
  | 6 => .array .int
  | _ => .int
abbrev wsX10 : List Cond := u_ws RX1 TX1 8
theorem nmX1 : ∀ a, a < 8 → ∀ b, b < 8 → a ≠ b → (TX1 a).2.1 ≠ (TX1 b).2.1 := by decide +kernel
theorem tyX1_ok : ∀ k, k < 8 → parseFieldDescriptor (TX1 k).2.2.1 = some (tyX1 k) := by decide +kernel
abbrev cX1_init : ByteArray := prog_3_method_1_code
def yX1_init : MethodName := ⟨RX1, "<init>", "()V"⟩
abbrev cX1_search : ByteArray := prog_3_method_2_code
def yX1_search : MethodName := ⟨RX1, "search", "(LSnoreCars$Train;LSnoreCars$Ear;)V"⟩
abbrev cX1_gatherUnits : ByteArray := prog_3_method_3_code
def yX1_gatherUnits : MethodName := ⟨RX1, "gatherUnits", "(LSnoreCars$Train;)I"⟩
abbrev cX1_stepOn : ByteArray := prog_3_method_4_code
def yX1_stepOn : MethodName := ⟨RX1, "stepOn", "(I)Z"⟩
abbrev cX1_weigh : ByteArray := prog_3_method_5_code
def yX1_weigh : MethodName := ⟨RX1, "weigh", "(LSnoreCars$Train;LSnoreCars$Ear;)V"⟩
abbrev cX1_wakersOf : ByteArray := prog_3_method_6_code
def yX1_wakersOf : MethodName := ⟨RX1, "wakersOf", "(LSnoreCars$Ear;I)I"⟩
def RX2 : String := "SnoreCars$Night"
def TX2 : u_T := fun k => match k with
  | 0 => ("SnoreCars$Night", "crews", "[I", true)
  | 1 => ("SnoreCars$Night", "awake", "I", false)
  | 2 => ("SnoreCars$Night", "hour", "I", false)
  | _ => ("SnoreCars$Night", "seed", "I", false)
def tyX2 : Nat → FieldType := fun k => match k with
  | 0 => .array .int
  | 1 => .int
  | 2 => .int
  | _ => .int
abbrev wsX20 : List Cond := u_ws RX2 TX2 4
theorem nmX2 : ∀ a, a < 4 → ∀ b, b < 4 → a ≠ b → (TX2 a).2.1 ≠ (TX2 b).2.1 := by decide +kernel
theorem tyX2_ok : ∀ k, k < 4 → parseFieldDescriptor (TX2 k).2.2.1 = some (tyX2 k) := by decide +kernel
abbrev cX2_init : ByteArray := prog_4_method_1_code
def yX2_init : MethodName := ⟨RX2, "<init>", "()V"⟩
abbrev cX2_begin : ByteArray := prog_4_method_2_code
def yX2_begin : MethodName := ⟨RX2, "begin", "()V"⟩
abbrev cX2_lieAs : ByteArray := prog_4_method_3_code
def yX2_lieAs : MethodName := ⟨RX2, "lieAs", "(LSnoreCars$Night;)V"⟩
abbrev cX2_inCars : ByteArray := prog_4_method_4_code
def yX2_inCars : MethodName := ⟨RX2, "inCars", "()I"⟩
abbrev cX2_lead : ByteArray := prog_4_method_5_code
def yX2_lead : MethodName := ⟨RX2, "lead", "(II)V"⟩
abbrev cX2_draw : ByteArray := prog_4_method_6_code
def yX2_draw : MethodName := ⟨RX2, "draw", "(I)I"⟩
def RX3 : String := "SnoreCars$Shelf"
def TX3 : u_T := fun k => match k with
  | _ => ("SnoreCars$Shelf", "cells", "[I", true)
def tyX3 : Nat → FieldType := fun k => match k with
  | _ => .array .int
abbrev wsX30 : List Cond := u_ws RX3 TX3 1
theorem nmX3 : ∀ a, a < 1 → ∀ b, b < 1 → a ≠ b → (TX3 a).2.1 ≠ (TX3 b).2.1 := by decide +kernel
theorem tyX3_ok : ∀ k, k < 1 → parseFieldDescriptor (TX3 k).2.2.1 = some (tyX3 k) := by decide +kernel
abbrev cX3_init : ByteArray := prog_5_method_1_code
def yX3_init : MethodName := ⟨RX3, "<init>", "(I)V"⟩
abbrev cX3_store : ByteArray := prog_5_method_2_code
def yX3_store : MethodName := ⟨RX3, "store", "(ILSnoreCars$Night;)V"⟩
abbrev cX3_take : ByteArray := prog_5_method_3_code
def yX3_take : MethodName := ⟨RX3, "take", "(ILSnoreCars$Night;)V"⟩
def RX4 : String := "SnoreCars$Shunting"
def TX4 : u_T := fun k => match k with
  | 0 => ("SnoreCars$Shunting", "codes", "[I", true)
  | 1 => ("SnoreCars$Shunting", "crews", "[I", true)
  | 2 => ("SnoreCars$Shunting", "quiet", "[I", true)
  | 3 => ("SnoreCars$Shunting", "first", "LSnoreCars$Steps;", true)
  | _ => ("SnoreCars$Shunting", "second", "LSnoreCars$Steps;", true)
def tyX4 : Nat → FieldType := fun k => match k with
  | 0 => .array .int
  | 1 => .array .int
  | 2 => .array .int
  | 3 => .object "SnoreCars$Steps"
  | _ => .object "SnoreCars$Steps"
abbrev wsX40 : List Cond := u_ws RX4 TX4 5
theorem nmX4 : ∀ a, a < 5 → ∀ b, b < 5 → a ≠ b → (TX4 a).2.1 ≠ (TX4 b).2.1 := by decide +kernel
theorem tyX4_ok : ∀ k, k < 5 → parseFieldDescriptor (TX4 k).2.2.1 = some (tyX4 k) := by decide +kernel
abbrev cX4_init : ByteArray := prog_6_method_1_code
def yX4_init : MethodName := ⟨RX4, "<init>", "()V"⟩
abbrev cX4_fewest : ByteArray := prog_6_method_2_code
def yX4_fewest : MethodName := ⟨RX4, "fewest", "(LSnoreCars$Train;LSnoreCars$Ear;LSnoreCars$Night;)I"⟩
abbrev cX4_firstQuiet : ByteArray := prog_6_method_3_code
def yX4_firstQuiet : MethodName := ⟨RX4, "firstQuiet", "(LSnoreCars$Steps;LSnoreCars$Ear;LSnoreCars$Night;)I"⟩
abbrev cX4_isQuiet : ByteArray := prog_6_method_4_code
def yX4_isQuiet : MethodName := ⟨RX4, "isQuiet", "(LSnoreCars$Ear;LSnoreCars$Night;)Z"⟩
def RX5 : String := "SnoreCars$Steps"
def TX5 : u_T := fun k => match k with
  | 0 => ("SnoreCars$Steps", "many", "I", false)
  | 1 => ("SnoreCars$Steps", "codes", "[I", true)
  | 2 => ("SnoreCars$Steps", "left", "[I", true)
  | 3 => ("SnoreCars$Steps", "right", "[I", true)
  | _ => ("SnoreCars$Steps", "sets", "[I", true)
def tyX5 : Nat → FieldType := fun k => match k with
  | 0 => .int
  | 1 => .array .int
  | 2 => .array .int
  | 3 => .array .int
  | _ => .array .int
abbrev wsX50 : List Cond := u_ws RX5 TX5 5
theorem nmX5 : ∀ a, a < 5 → ∀ b, b < 5 → a ≠ b → (TX5 a).2.1 ≠ (TX5 b).2.1 := by decide +kernel
theorem tyX5_ok : ∀ k, k < 5 → parseFieldDescriptor (TX5 k).2.2.1 = some (tyX5 k) := by decide +kernel
abbrev cX5_init : ByteArray := prog_7_method_1_code
def yX5_init : MethodName := ⟨RX5, "<init>", "()V"⟩
abbrev cX5_list : ByteArray := prog_7_method_2_code
def yX5_list : MethodName := ⟨RX5, "list", "(LSnoreCars$Train;[I)V"⟩
abbrev cX5_append : ByteArray := prog_7_method_3_code
def yX5_append : MethodName := ⟨RX5, "append", "(IIII)V"⟩
abbrev cX5_go : ByteArray := prog_7_method_4_code
def yX5_go : MethodName := ⟨RX5, "go", "(I[I)V"⟩
def RX6 : String := "SnoreCars$Text"
def TX6 : u_T := fun k => match k with
  | 0 => ("SnoreCars$Text", "letters", "[I", true)
  | 1 => ("SnoreCars$Text", "length", "I", false)
  | 2 => ("SnoreCars$Text", "faultPlace", "I", false)
  | 3 => ("SnoreCars$Text", "fault", "I", false)
  | 4 => ("SnoreCars$Text", "place", "I", false)
  | 5 => ("SnoreCars$Text", "numberPlace", "I", false)
  | _ => ("SnoreCars$Text", "isLawTold", "Z", false)
def tyX6 : Nat → FieldType := fun k => match k with
  | 0 => .array .int
  | 1 => .int
  | 2 => .int
  | 3 => .int
  | 4 => .int
  | 5 => .int
  | _ => .boolean
abbrev wsX60 : List Cond := u_ws RX6 TX6 7
theorem nmX6 : ∀ a, a < 7 → ∀ b, b < 7 → a ≠ b → (TX6 a).2.1 ≠ (TX6 b).2.1 := by decide +kernel
theorem tyX6_ok : ∀ k, k < 7 → parseFieldDescriptor (TX6 k).2.2.1 = some (tyX6 k) := by decide +kernel
abbrev cX6_init : ByteArray := prog_8_method_1_code
def yX6_init : MethodName := ⟨RX6, "<init>", "()V"⟩
abbrev cX6_add : ByteArray := prog_8_method_2_code
def yX6_add : MethodName := ⟨RX6, "add", "(I)Z"⟩
abbrev cX6_read : ByteArray := prog_8_method_3_code
def yX6_read : MethodName := ⟨RX6, "read", "(LSnoreCars$Train;)I"⟩
abbrev cX6_readClause : ByteArray := prog_8_method_4_code
def yX6_readClause : MethodName := ⟨RX6, "readClause", "(LSnoreCars$Train;)V"⟩
abbrev cX6_faultOfWord : ByteArray := prog_8_method_5_code
def yX6_faultOfWord : MethodName := ⟨RX6, "faultOfWord", "(LSnoreCars$Train;I)I"⟩
abbrev cX6_readCars : ByteArray := prog_8_method_6_code
def yX6_readCars : MethodName := ⟨RX6, "readCars", "(LSnoreCars$Train;)V"⟩
abbrev cX6_readLaw : ByteArray := prog_8_method_7_code
def yX6_readLaw : MethodName := ⟨RX6, "readLaw", "(LSnoreCars$Train;)V"⟩
abbrev cX6_readSleeper : ByteArray := prog_8_method_8_code
def yX6_readSleeper : MethodName := ⟨RX6, "readSleeper", "(LSnoreCars$Train;)V"⟩
abbrev cX6_readCouple : ByteArray := prog_8_method_9_code
def yX6_readCouple : MethodName := ⟨RX6, "readCouple", "(LSnoreCars$Train;)V"⟩
abbrev cX6_readNumber : ByteArray := prog_8_method_10_code
def yX6_readNumber : MethodName := ⟨RX6, "readNumber", "(II)I"⟩
abbrev cX6_readComma : ByteArray := prog_8_method_11_code
def yX6_readComma : MethodName := ⟨RX6, "readComma", "(Z)Z"⟩
abbrev cX6_skipBlanks : ByteArray := prog_8_method_12_code
def yX6_skipBlanks : MethodName := ⟨RX6, "skipBlanks", "()V"⟩
abbrev cX6_letterHere : ByteArray := prog_8_method_13_code
def yX6_letterHere : MethodName := ⟨RX6, "letterHere", "()I"⟩
abbrev cX6_isFigure : ByteArray := prog_8_method_14_code
def yX6_isFigure : MethodName := ⟨RX6, "isFigure", "(I)Z"⟩
abbrev cX6_fail : ByteArray := prog_8_method_15_code
def yX6_fail : MethodName := ⟨RX6, "fail", "(II)V"⟩
def RX7 : String := "SnoreCars$Train"
def TX7 : u_T := fun k => match k with
  | 0 => ("SnoreCars$Train", "cars", "I", false)
  | 1 => ("SnoreCars$Train", "sleepers", "I", false)
  | 2 => ("SnoreCars$Train", "couples", "I", false)
  | 3 => ("SnoreCars$Train", "law", "I", false)
  | 4 => ("SnoreCars$Train", "berths", "[I", true)
  | 5 => ("SnoreCars$Train", "pitch", "[I", true)
  | 6 => ("SnoreCars$Train", "loud", "[I", true)
  | 7 => ("SnoreCars$Train", "depth", "[I", true)
  | 8 => ("SnoreCars$Train", "from", "[I", true)
  | 9 => ("SnoreCars$Train", "to", "[I", true)
  | _ => ("SnoreCars$Train", "mate", "[I", true)
def tyX7 : Nat → FieldType := fun k => match k with
  | 0 => .int
  | 1 => .int
  | 2 => .int
  | 3 => .int
  | 4 => .array .int
  | 5 => .array .int
  | 6 => .array .int
  | 7 => .array .int
  | 8 => .array .int
  | 9 => .array .int
  | _ => .array .int
abbrev wsX70 : List Cond := u_ws RX7 TX7 11
theorem nmX7 : ∀ a, a < 11 → ∀ b, b < 11 → a ≠ b → (TX7 a).2.1 ≠ (TX7 b).2.1 := by decide +kernel
theorem tyX7_ok : ∀ k, k < 11 → parseFieldDescriptor (TX7 k).2.2.1 = some (tyX7 k) := by decide +kernel
abbrev cX7_init : ByteArray := prog_9_method_1_code
def yX7_init : MethodName := ⟨RX7, "<init>", "()V"⟩
abbrev cX7_clear : ByteArray := prog_9_method_2_code
def yX7_clear : MethodName := ⟨RX7, "clear", "()V"⟩
def RX8 : String := "SnoreCars"
def TX8 : u_T := fun k => match k with
  | 0 => ("SnoreCars", "text", "LSnoreCars$Text;", true)
  | 1 => ("SnoreCars", "train", "LSnoreCars$Train;", false)
  | 2 => ("SnoreCars", "spare", "LSnoreCars$Train;", false)
  | 3 => ("SnoreCars", "faultPlace", "I", false)
  | 4 => ("SnoreCars", "ear", "LSnoreCars$Ear;", true)
  | 5 => ("SnoreCars", "trialEar", "LSnoreCars$Ear;", true)
  | 6 => ("SnoreCars", "night", "LSnoreCars$Night;", true)
  | 7 => ("SnoreCars", "trialNight", "LSnoreCars$Night;", true)
  | 8 => ("SnoreCars", "undone", "LSnoreCars$Shelf;", true)
  | 9 => ("SnoreCars", "oldestUndone", "I", false)
  | 10 => ("SnoreCars", "manyUndone", "I", false)
  | 11 => ("SnoreCars", "images", "LSnoreCars$Shelf;", true)
  | 12 => ("SnoreCars", "keptImages", "I", false)
  | 13 => ("SnoreCars", "entrySleepers", "[I", true)
  | 14 => ("SnoreCars", "entryAwake", "[I", true)
  | 15 => ("SnoreCars", "entries", "I", false)
  | 16 => ("SnoreCars", "makingUp", "LSnoreCars$MakingUp;", true)
  | _ => ("SnoreCars", "shunting", "LSnoreCars$Shunting;", true)
def tyX8 : Nat → FieldType := fun k => match k with
  | 0 => .object "SnoreCars$Text"
  | 1 => .object "SnoreCars$Train"
  | 2 => .object "SnoreCars$Train"
  | 3 => .int
  | 4 => .object "SnoreCars$Ear"
  | 5 => .object "SnoreCars$Ear"
  | 6 => .object "SnoreCars$Night"
  | 7 => .object "SnoreCars$Night"
  | 8 => .object "SnoreCars$Shelf"
  | 9 => .int
  | 10 => .int
  | 11 => .object "SnoreCars$Shelf"
  | 12 => .int
  | 13 => .array .int
  | 14 => .array .int
  | 15 => .int
  | 16 => .object "SnoreCars$MakingUp"
  | _ => .object "SnoreCars$Shunting"
abbrev wsX80 : List Cond := u_ws RX8 TX8 18
theorem nmX8 : ∀ a, a < 18 → ∀ b, b < 18 → a ≠ b → (TX8 a).2.1 ≠ (TX8 b).2.1 := by decide +kernel
theorem tyX8_ok : ∀ k, k < 18 → parseFieldDescriptor (TX8 k).2.2.1 = some (tyX8 k) := by decide +kernel
abbrev cX8_init : ByteArray := prog_1_method_1_code
def yX8_init : MethodName := ⟨RX8, "<init>", "()V"⟩
abbrev cX8_feed : ByteArray := prog_1_method_2_code
def yX8_feed : MethodName := ⟨RX8, "feed", "(I)I"⟩
abbrev cX8_train : ByteArray := prog_1_method_3_code
def yX8_train : MethodName := ⟨RX8, "train", "()I"⟩
abbrev cX8_fault : ByteArray := prog_1_method_4_code
def yX8_fault : MethodName := ⟨RX8, "fault", "()I"⟩
abbrev cX8_told : ByteArray := prog_1_method_5_code
def yX8_told : MethodName := ⟨RX8, "told", "(I)I"⟩
abbrev cX8_car : ByteArray := prog_1_method_6_code
def yX8_car : MethodName := ⟨RX8, "car", "(II)I"⟩
abbrev cX8_sleeper : ByteArray := prog_1_method_7_code
def yX8_sleeper : MethodName := ⟨RX8, "sleeper", "(II)I"⟩
abbrev cX8_interval : ByteArray := prog_1_method_8_code
def yX8_interval : MethodName := ⟨RX8, "interval", "(II)I"⟩
abbrev cX8_put : ByteArray := prog_1_method_9_code
def yX8_put : MethodName := ⟨RX8, "put", "(II)I"⟩
abbrev cX8_off : ByteArray := prog_1_method_10_code
def yX8_off : MethodName := ⟨RX8, "off", "(I)I"⟩
abbrev cX8_hour : ByteArray := prog_1_method_11_code
def yX8_hour : MethodName := ⟨RX8, "hour", "(I)I"⟩
abbrev cX8_evening : ByteArray := prog_1_method_12_code
def yX8_evening : MethodName := ⟨RX8, "evening", "()I"⟩
abbrev cX8_drift : ByteArray := prog_1_method_13_code
def yX8_drift : MethodName := ⟨RX8, "drift", "(I)I"⟩
abbrev cX8_undo : ByteArray := prog_1_method_14_code
def yX8_undo : MethodName := ⟨RX8, "undo", "()I"⟩
abbrev cX8_wake : ByteArray := prog_1_method_15_code
def yX8_wake : MethodName := ⟨RX8, "wake", "()I"⟩
abbrev cX8_shunted : ByteArray := prog_1_method_16_code
def yX8_shunted : MethodName := ⟨RX8, "shunted", "(I)I"⟩
abbrev cX8_madeUp : ByteArray := prog_1_method_17_code
def yX8_madeUp : MethodName := ⟨RX8, "madeUp", "(I)I"⟩
abbrev cX8_moves : ByteArray := prog_1_method_18_code
def yX8_moves : MethodName := ⟨RX8, "moves", "(I)I"⟩
abbrev cX8_laws : ByteArray := prog_1_method_19_code
def yX8_laws : MethodName := ⟨RX8, "laws", "(II)I"⟩
abbrev cX8_pitches : ByteArray := prog_1_method_20_code
def yX8_pitches : MethodName := ⟨RX8, "pitches", "(III)I"⟩
abbrev cX8_bestCar : ByteArray := prog_1_method_21_code
def yX8_bestCar : MethodName := ⟨RX8, "bestCar", "(II)I"⟩
abbrev cX8_alike : ByteArray := prog_1_method_22_code
def yX8_alike : MethodName := ⟨RX8, "alike", "(II)I"⟩
abbrev cX8_sounds : ByteArray := prog_1_method_23_code
def yX8_sounds : MethodName := ⟨RX8, "sounds", "(III)I"⟩
abbrev cX8_cold : ByteArray := prog_1_method_24_code
def yX8_cold : MethodName := ⟨RX8, "cold", "(II)I"⟩
abbrev cX8_write : ByteArray := prog_1_method_25_code
def yX8_write : MethodName := ⟨RX8, "write", "(IZ)I"⟩
abbrev cX8_tear : ByteArray := prog_1_method_26_code
def yX8_tear : MethodName := ⟨RX8, "tear", "()I"⟩
abbrev cX8_judge : ByteArray := prog_1_method_27_code
def yX8_judge : MethodName := ⟨RX8, "judge", "()I"⟩
abbrev cX8_seed : ByteArray := prog_1_method_28_code
def yX8_seed : MethodName := ⟨RX8, "seed", "(I)I"⟩
abbrev cX8_keep : ByteArray := prog_1_method_29_code
def yX8_keep : MethodName := ⟨RX8, "keep", "(I)I"⟩
abbrev cX8_goBack : ByteArray := prog_1_method_30_code
def yX8_goBack : MethodName := ⟨RX8, "goBack", "(I)I"⟩
abbrev cX8_isNoCar : ByteArray := prog_1_method_31_code
def yX8_isNoCar : MethodName := ⟨RX8, "isNoCar", "(I)Z"⟩
abbrev cX8_isNoSleeper : ByteArray := prog_1_method_32_code
def yX8_isNoSleeper : MethodName := ⟨RX8, "isNoSleeper", "(I)Z"⟩
abbrev cX8_isNoSet : ByteArray := prog_1_method_33_code
def yX8_isNoSet : MethodName := ⟨RX8, "isNoSet", "(I)Z"⟩
abbrev cX8_allSleepers : ByteArray := prog_1_method_34_code
def yX8_allSleepers : MethodName := ⟨RX8, "allSleepers", "()I"⟩
abbrev cX8_snorersNow : ByteArray := prog_1_method_35_code
def yX8_snorersNow : MethodName := ⟨RX8, "snorersNow", "(I)I"⟩
abbrev cX8_noiseNow : ByteArray := prog_1_method_36_code
def yX8_noiseNow : MethodName := ⟨RX8, "noiseNow", "(I)I"⟩
abbrev cX8_passAnHour : ByteArray := prog_1_method_37_code
def yX8_passAnHour : MethodName := ⟨RX8, "passAnHour", "()V"⟩
abbrev cX8_remember : ByteArray := prog_1_method_38_code
def yX8_remember : MethodName := ⟨RX8, "remember", "()V"⟩
abbrev cX8_testPitch : ByteArray := prog_1_method_39_code
def yX8_testPitch : MethodName := ⟨RX8, "testPitch", "(I)I"⟩
abbrev cX8_isAlikeBy : ByteArray := prog_1_method_40_code
def yX8_isAlikeBy : MethodName := ⟨RX8, "isAlikeBy", "(III)Z"⟩
abbrev cX8_manyAt : ByteArray := prog_1_method_41_code
def yX8_manyAt : MethodName := ⟨RX8, "manyAt", "(II)I"⟩
abbrev cX8_loudOf : ByteArray := prog_1_method_42_code
def yX8_loudOf : MethodName := ⟨RX8, "loudOf", "(I)I"⟩
abbrev cX8_chordOf : ByteArray := prog_1_method_43_code
def yX8_chordOf : MethodName := ⟨RX8, "chordOf", "(I)I"⟩
abbrev cX8_leastOf : ByteArray := prog_1_method_44_code
def yX8_leastOf : MethodName := ⟨RX8, "leastOf", "(I)I"⟩
abbrev cX8_apart : ByteArray := prog_1_method_45_code
def yX8_apart : MethodName := ⟨RX8, "apart", "(II)I"⟩
abbrev cX8_carOf : ByteArray := prog_1_method_46_code
def yX8_carOf : MethodName := ⟨RX8, "carOf", "([II)I"⟩
abbrev cX8_isFull : ByteArray := prog_1_method_47_code
def yX8_isFull : MethodName := ⟨RX8, "isFull", "(LSnoreCars$Train;[II)Z"⟩
abbrev cX8_at : ByteArray := prog_1_method_48_code
def yX8_at : MethodName := ⟨RX8, "at", "([II)I"⟩
abbrev cX8_lay : ByteArray := prog_1_method_49_code
def yX8_lay : MethodName := ⟨RX8, "lay", "([III)V"⟩
def RX9 : String := "SnoreCarsModel"
def TX9 : u_T := fun k => match k with
  | 0 => ("SnoreCarsModel", "letters", "I", false)
  | 1 => ("SnoreCarsModel", "text", "[I", true)
  | 2 => ("SnoreCarsModel", "position", "I", false)
  | 3 => ("SnoreCarsModel", "tokenAt", "I", false)
  | 4 => ("SnoreCarsModel", "token", "I", false)
  | 5 => ("SnoreCarsModel", "number", "I", false)
  | 6 => ("SnoreCarsModel", "figures", "I", false)
  | 7 => ("SnoreCarsModel", "faultAt", "I", false)
  | 8 => ("SnoreCarsModel", "faultIs", "I", false)
  | 9 => ("SnoreCarsModel", "readCars", "I", false)
  | 10 => ("SnoreCarsModel", "readSleepers", "I", false)
  | 11 => ("SnoreCarsModel", "readCouples", "I", false)
  | 12 => ("SnoreCarsModel", "readTune", "I", false)
  | 13 => ("SnoreCarsModel", "readBerths", "[I", true)
  | 14 => ("SnoreCarsModel", "read", "[I", true)
  | 15 => ("SnoreCarsModel", "readMate", "[I", true)
  | 16 => ("SnoreCarsModel", "cars", "I", false)
  | 17 => ("SnoreCarsModel", "sleepers", "I", false)
  | 18 => ("SnoreCarsModel", "couples", "I", false)
  | 19 => ("SnoreCarsModel", "tune", "I", false)
  | 20 => ("SnoreCarsModel", "berths", "[I", true)
  | 21 => ("SnoreCarsModel", "of", "[I", true)
  | 22 => ("SnoreCarsModel", "mate", "[I", true)
  | 23 => ("SnoreCarsModel", "now", "[I", true)
  | 24 => ("SnoreCarsModel", "tried", "[I", true)
  | 25 => ("SnoreCarsModel", "backOf", "[I", true)
  | 26 => ("SnoreCarsModel", "backs", "I", false)
  | 27 => ("SnoreCarsModel", "image", "[I", true)
  | 28 => ("SnoreCarsModel", "imageSeed", "[I", true)
  | 29 => ("SnoreCarsModel", "isKept", "[Z", true)
  | 30 => ("SnoreCarsModel", "seed", "I", false)
  | 31 => ("SnoreCarsModel", "entries", "I", false)
  | 32 => ("SnoreCarsModel", "entry", "[I", true)
  | 33 => ("SnoreCarsModel", "row", "[I", true)
  | 34 => ("SnoreCarsModel", "free", "[I", true)
  | 35 => ("SnoreCarsModel", "moved", "[I", true)
  | _ => ("SnoreCarsModel", "movedMany", "I", false)
def tyX9 : Nat → FieldType := fun k => match k with
  | 0 => .int
  | 1 => .array .int
  | 2 => .int
  | 3 => .int
  | 4 => .int
  | 5 => .int
  | 6 => .int
  | 7 => .int
  | 8 => .int
  | 9 => .int
  | 10 => .int
  | 11 => .int
  | 12 => .int
  | 13 => .array .int
  | 14 => .array .int
  | 15 => .array .int
  | 16 => .int
  | 17 => .int
  | 18 => .int
  | 19 => .int
  | 20 => .array .int
  | 21 => .array .int
  | 22 => .array .int
  | 23 => .array .int
  | 24 => .array .int
  | 25 => .array .int
  | 26 => .int
  | 27 => .array .int
  | 28 => .array .int
  | 29 => .array .boolean
  | 30 => .int
  | 31 => .int
  | 32 => .array .int
  | 33 => .array .int
  | 34 => .array .int
  | 35 => .array .int
  | _ => .int
abbrev wsX90 : List Cond := u_ws RX9 TX9 37
theorem nmX9 : ∀ a, a < 37 → ∀ b, b < 37 → a ≠ b → (TX9 a).2.1 ≠ (TX9 b).2.1 := by decide +kernel
theorem tyX9_ok : ∀ k, k < 37 → parseFieldDescriptor (TX9 k).2.2.1 = some (tyX9 k) := by decide +kernel
abbrev cX9_init : ByteArray := prog_11_method_1_code
def yX9_init : MethodName := ⟨RX9, "<init>", "()V"⟩
abbrev cX9_goOut : ByteArray := prog_11_method_2_code
def yX9_goOut : MethodName := ⟨RX9, "goOut", "([I)V"⟩
abbrev cX9_in : ByteArray := prog_11_method_3_code
def yX9_in : MethodName := ⟨RX9, "in", "(III)Z"⟩
abbrev cX9_has : ByteArray := prog_11_method_4_code
def yX9_has : MethodName := ⟨RX9, "has", "(II)Z"⟩
abbrev cX9_isCar : ByteArray := prog_11_method_5_code
def yX9_isCar : MethodName := ⟨RX9, "isCar", "(I)Z"⟩
abbrev cX9_isOne : ByteArray := prog_11_method_6_code
def yX9_isOne : MethodName := ⟨RX9, "isOne", "(I)Z"⟩
abbrev cX9_isSet : ByteArray := prog_11_method_7_code
def yX9_isSet : MethodName := ⟨RX9, "isSet", "(I)Z"⟩
abbrev cX9_feed : ByteArray := prog_11_method_8_code
def yX9_feed : MethodName := ⟨RX9, "feed", "(I)I"⟩
abbrev cX9_nextToken : ByteArray := prog_11_method_9_code
def yX9_nextToken : MethodName := ⟨RX9, "nextToken", "()V"⟩
abbrev cX9_fails : ByteArray := prog_11_method_10_code
def yX9_fails : MethodName := ⟨RX9, "fails", "(I)Z"⟩
abbrev cX9_isNumber : ByteArray := prog_11_method_11_code
def yX9_isNumber : MethodName := ⟨RX9, "isNumber", "(II)Z"⟩
abbrev cX9_isEnd : ByteArray := prog_11_method_12_code
def yX9_isEnd : MethodName := ⟨RX9, "isEnd", "()Z"⟩
abbrev cX9_areCars : ByteArray := prog_11_method_13_code
def yX9_areCars : MethodName := ⟨RX9, "areCars", "()Z"⟩
abbrev cX9_isSleeper : ByteArray := prog_11_method_14_code
def yX9_isSleeper : MethodName := ⟨RX9, "isSleeper", "()Z"⟩
abbrev cX9_areIntervals : ByteArray := prog_11_method_15_code
def yX9_areIntervals : MethodName := ⟨RX9, "areIntervals", "()Z"⟩
abbrev cX9_isMate : ByteArray := prog_11_method_16_code
def yX9_isMate : MethodName := ⟨RX9, "isMate", "(I)Z"⟩
abbrev cX9_isCouple : ByteArray := prog_11_method_17_code
def yX9_isCouple : MethodName := ⟨RX9, "isCouple", "()Z"⟩
abbrev cX9_isClause : ByteArray := prog_11_method_18_code
def yX9_isClause : MethodName := ⟨RX9, "isClause", "()Z"⟩
abbrev cX9_isRead : ByteArray := prog_11_method_19_code
def yX9_isRead : MethodName := ⟨RX9, "isRead", "()Z"⟩
abbrev cX9_train : ByteArray := prog_11_method_20_code
def yX9_train : MethodName := ⟨RX9, "train", "()I"⟩
abbrev cX9_fault : ByteArray := prog_11_method_21_code
def yX9_fault : MethodName := ⟨RX9, "fault", "()I"⟩
abbrev cX9_apart : ByteArray := prog_11_method_22_code
def yX9_apart : MethodName := ⟨RX9, "apart", "(II)I"⟩
abbrev cX9_pitchOf : ByteArray := prog_11_method_23_code
def yX9_pitchOf : MethodName := ⟨RX9, "pitchOf", "(I)I"⟩
abbrev cX9_snores : ByteArray := prog_11_method_24_code
def yX9_snores : MethodName := ⟨RX9, "snores", "([III)Z"⟩
abbrev cX9_snorers : ByteArray := prog_11_method_25_code
def yX9_snorers : MethodName := ⟨RX9, "snorers", "([III)I"⟩
abbrev cX9_noiseFor : ByteArray := prog_11_method_26_code
def yX9_noiseFor : MethodName := ⟨RX9, "noiseFor", "([III)I"⟩
abbrev cX9_isOut : ByteArray := prog_11_method_27_code
def yX9_isOut : MethodName := ⟨RX9, "isOut", "([III)Z"⟩
abbrev cX9_pass : ByteArray := prog_11_method_28_code
def yX9_pass : MethodName := ⟨RX9, "pass", "([I)V"⟩
abbrev cX9_sleepOn : ByteArray := prog_11_method_29_code
def yX9_sleepOn : MethodName := ⟨RX9, "sleepOn", "([I)V"⟩
abbrev cX9_bits : ByteArray := prog_11_method_30_code
def yX9_bits : MethodName := ⟨RX9, "bits", "(I)I"⟩
abbrev cX9_thereIn : ByteArray := prog_11_method_31_code
def yX9_thereIn : MethodName := ⟨RX9, "thereIn", "([II)I"⟩
abbrev cX9_copy : ByteArray := prog_11_method_32_code
def yX9_copy : MethodName := ⟨RX9, "copy", "([II[II)V"⟩
abbrev cX9_told : ByteArray := prog_11_method_33_code
def yX9_told : MethodName := ⟨RX9, "told", "(I)I"⟩
abbrev cX9_car : ByteArray := prog_11_method_34_code
def yX9_car : MethodName := ⟨RX9, "car", "(II)I"⟩
abbrev cX9_sleeper : ByteArray := prog_11_method_35_code
def yX9_sleeper : MethodName := ⟨RX9, "sleeper", "(II)I"⟩
abbrev cX9_interval : ByteArray := prog_11_method_36_code
def yX9_interval : MethodName := ⟨RX9, "interval", "(II)I"⟩
abbrev cX9_note : ByteArray := prog_11_method_37_code
def yX9_note : MethodName := ⟨RX9, "note", "()V"⟩
abbrev cX9_put : ByteArray := prog_11_method_38_code
def yX9_put : MethodName := ⟨RX9, "put", "(II)I"⟩
abbrev cX9_off : ByteArray := prog_11_method_39_code
def yX9_off : MethodName := ⟨RX9, "off", "(I)I"⟩
abbrev cX9_hour : ByteArray := prog_11_method_40_code
def yX9_hour : MethodName := ⟨RX9, "hour", "(I)I"⟩
abbrev cX9_evening : ByteArray := prog_11_method_41_code
def yX9_evening : MethodName := ⟨RX9, "evening", "()I"⟩
abbrev cX9_draw : ByteArray := prog_11_method_42_code
def yX9_draw : MethodName := ⟨RX9, "draw", "(I)I"⟩
abbrev cX9_drift : ByteArray := prog_11_method_43_code
def yX9_drift : MethodName := ⟨RX9, "drift", "(I)I"⟩
abbrev cX9_undo : ByteArray := prog_11_method_44_code
def yX9_undo : MethodName := ⟨RX9, "undo", "()I"⟩
abbrev cX9_morning : ByteArray := prog_11_method_45_code
def yX9_morning : MethodName := ⟨RX9, "morning", "()I"⟩
abbrev cX9_begin : ByteArray := prog_11_method_46_code
def yX9_begin : MethodName := ⟨RX9, "begin", "()V"⟩
abbrev cX9_wake : ByteArray := prog_11_method_47_code
def yX9_wake : MethodName := ⟨RX9, "wake", "()I"⟩
abbrev cX9_shunted : ByteArray := prog_11_method_48_code
def yX9_shunted : MethodName := ⟨RX9, "shunted", "(I)I"⟩
abbrev cX9_lays : ByteArray := prog_11_method_49_code
def yX9_lays : MethodName := ⟨RX9, "lays", "(I)Z"⟩
abbrev cX9_madeUp : ByteArray := prog_11_method_50_code
def yX9_madeUp : MethodName := ⟨RX9, "madeUp", "(I)I"⟩
abbrev cX9_move : ByteArray := prog_11_method_51_code
def yX9_move : MethodName := ⟨RX9, "move", "(I)Z"⟩
abbrev cX9_nobodyWakes : ByteArray := prog_11_method_52_code
def yX9_nobodyWakes : MethodName := ⟨RX9, "nobodyWakes", "()Z"⟩
abbrev cX9_layMoves : ByteArray := prog_11_method_53_code
def yX9_layMoves : MethodName := ⟨RX9, "layMoves", "()V"⟩
abbrev cX9_moves : ByteArray := prog_11_method_54_code
def yX9_moves : MethodName := ⟨RX9, "moves", "(I)I"⟩
abbrev cX9_laws : ByteArray := prog_11_method_55_code
def yX9_laws : MethodName := ⟨RX9, "laws", "(II)I"⟩
abbrev cX9_pitchesOf : ByteArray := prog_11_method_56_code
def yX9_pitchesOf : MethodName := ⟨RX9, "pitchesOf", "(II)I"⟩
abbrev cX9_pitches : ByteArray := prog_11_method_57_code
def yX9_pitches : MethodName := ⟨RX9, "pitches", "(III)I"⟩
abbrev cX9_bestCar : ByteArray := prog_11_method_58_code
def yX9_bestCar : MethodName := ⟨RX9, "bestCar", "(II)I"⟩
abbrev cX9_alike : ByteArray := prog_11_method_59_code
def yX9_alike : MethodName := ⟨RX9, "alike", "(II)I"⟩
abbrev cX9_sounds : ByteArray := prog_11_method_60_code
def yX9_sounds : MethodName := ⟨RX9, "sounds", "(III)I"⟩
abbrev cX9_cold : ByteArray := prog_11_method_61_code
def yX9_cold : MethodName := ⟨RX9, "cold", "(II)I"⟩
abbrev cX9_write : ByteArray := prog_11_method_62_code
def yX9_write : MethodName := ⟨RX9, "write", "(IZ)I"⟩
abbrev cX9_tear : ByteArray := prog_11_method_63_code
def yX9_tear : MethodName := ⟨RX9, "tear", "()I"⟩
abbrev cX9_judge : ByteArray := prog_11_method_64_code
def yX9_judge : MethodName := ⟨RX9, "judge", "()I"⟩
abbrev cX9_seed : ByteArray := prog_11_method_65_code
def yX9_seed : MethodName := ⟨RX9, "seed", "(I)I"⟩
abbrev cX9_keep : ByteArray := prog_11_method_66_code
def yX9_keep : MethodName := ⟨RX9, "keep", "(I)I"⟩
abbrev cX9_goBack : ByteArray := prog_11_method_67_code
def yX9_goBack : MethodName := ⟨RX9, "goBack", "(I)I"⟩
def RJ6 : String := "java/lang/Integer"
def TJ6 : u_T := fun k => match k with
  | _ => ("", "", "", false)
def tyJ6 : Nat → FieldType := fun k => match k with
  | _ => .int
abbrev wsJ60 : List Cond := u_ws RJ6 TJ6 0
theorem nmJ6 : ∀ a, a < 0 → ∀ b, b < 0 → a ≠ b → (TJ6 a).2.1 ≠ (TJ6 b).2.1 := by decide +kernel
theorem tyJ6_ok : ∀ k, k < 0 → parseFieldDescriptor (TJ6 k).2.2.1 = some (tyJ6 k) := by decide +kernel
abbrev cJ6_bitCount_0f7a4 : ByteArray := prog_12_method_49_code
def yJ6_bitCount_0f7a4 : MethodName := ⟨RJ6, "bitCount", "(I)I"⟩
def RJ9 : String := "java/lang/Math"
def TJ9 : u_T := fun k => match k with
  | _ => ("", "", "", false)
def tyJ9 : Nat → FieldType := fun k => match k with
  | _ => .int
abbrev wsJ90 : List Cond := u_ws RJ9 TJ9 0
theorem nmJ9 : ∀ a, a < 0 → ∀ b, b < 0 → a ≠ b → (TJ9 a).2.1 ≠ (TJ9 b).2.1 := by decide +kernel
theorem tyJ9_ok : ∀ k, k < 0 → parseFieldDescriptor (TJ9 k).2.2.1 = some (tyJ9 k) := by decide +kernel
abbrev cJ9_abs_0f7a4 : ByteArray := prog_13_method_59_code
def yJ9_abs_0f7a4 : MethodName := ⟨RJ9, "abs", "(I)I"⟩
abbrev cJ9_max_7cf53 : ByteArray := prog_13_method_65_code
def yJ9_max_7cf53 : MethodName := ⟨RJ9, "max", "(II)I"⟩
abbrev cJ9_min_7cf53 : ByteArray := prog_13_method_69_code
def yJ9_min_7cf53 : MethodName := ⟨RJ9, "min", "(II)I"⟩
def RJ7 : String := "java/util/Arrays"
def TJ7 : u_T := fun k => match k with
  | _ => ("", "", "", false)
def tyJ7 : Nat → FieldType := fun k => match k with
  | _ => .int
abbrev wsJ70 : List Cond := u_ws RJ7 TJ7 0
theorem nmJ7 : ∀ a, a < 0 → ∀ b, b < 0 → a ≠ b → (TJ7 a).2.1 ≠ (TJ7 b).2.1 := by decide +kernel
theorem tyJ7_ok : ∀ k, k < 0 → parseFieldDescriptor (TJ7 k).2.2.1 = some (tyJ7 k) := by decide +kernel
abbrev cJ7_fill_53178 : ByteArray := prog_14_method_103_code
def yJ7_fill_53178 : MethodName := ⟨RJ7, "fill", "([II)V"⟩
def RL : String := "SnoreCarsLaw"
abbrev cL_law : ByteArray := code
def yL_law : MethodName := ⟨RL, "law", "([I)Z"⟩
abbrev vwCl : List vw_C := [(RX0, TX0, 6), (RX1, TX1, 8), (RX2, TX2, 4), (RX3, TX3, 1), (RX4, TX4, 5), (RX5, TX5, 5), (RX6, TX6, 7), (RX7, TX7, 11), (RX8, TX8, 18), (RX9, TX9, 37)]
