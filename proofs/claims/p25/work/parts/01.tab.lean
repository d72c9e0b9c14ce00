-- ===== PART A: goes FIRST, ahead of the names: the tables' words, and 'selects' of the private methods out of them =====
/-- a private method of a class that the tables say can be made, by its rows of tables_1 -/
def lw_okq (q : MethodName × Nat) : Prop := (q.1.cls ≠ "java/lang/invoke/MethodHandle" ∧ q.1.cls ≠ "java/lang/invoke/VarHandle") ∧ Cond.instantiable q.1.cls q.2 ∈ tables_1 ∧ Cond.privateMethod q.1 ∈ tables_1 ∧ Cond.instanceMethod q.1 ∈ tables_1
theorem lw_p0 : lw_okq (⟨"ButterflyCode$CodeText", "setDefaults", "()V"⟩, 7) := ⟨⟨by decide +kernel, by decide +kernel⟩, List.mem_of_getElem? (i := 112) (by decide +kernel), List.mem_of_getElem? (i := 406) (by decide +kernel), List.mem_of_getElem? (i := 407) (by decide +kernel)⟩
theorem lw_p1 : lw_okq (⟨"ButterflyCode$CodeText", "parseSize", "()V"⟩, 7) := ⟨⟨by decide +kernel, by decide +kernel⟩, List.mem_of_getElem? (i := 112) (by decide +kernel), List.mem_of_getElem? (i := 410) (by decide +kernel), List.mem_of_getElem? (i := 411) (by decide +kernel)⟩
theorem lw_p2 : lw_okq (⟨"ButterflyCode$CodeText", "skipBlanks", "()V"⟩, 7) := ⟨⟨by decide +kernel, by decide +kernel⟩, List.mem_of_getElem? (i := 112) (by decide +kernel), List.mem_of_getElem? (i := 414) (by decide +kernel), List.mem_of_getElem? (i := 415) (by decide +kernel)⟩
theorem lw_p3 : lw_okq (⟨"ButterflyCode$CodeText", "skipLetters", "()V"⟩, 7) := ⟨⟨by decide +kernel, by decide +kernel⟩, List.mem_of_getElem? (i := 112) (by decide +kernel), List.mem_of_getElem? (i := 418) (by decide +kernel), List.mem_of_getElem? (i := 419) (by decide +kernel)⟩
theorem lw_p4 : lw_okq (⟨"ButterflyCode$CodeText", "isWord", "(ILjava/lang/String;)Z"⟩, 7) := ⟨⟨by decide +kernel, by decide +kernel⟩, List.mem_of_getElem? (i := 112) (by decide +kernel), List.mem_of_getElem? (i := 423) (by decide +kernel), List.mem_of_getElem? (i := 424) (by decide +kernel)⟩
theorem lw_p5 : lw_okq (⟨"ButterflyCode$CodeText", "blame", "(II)V"⟩, 7) := ⟨⟨by decide +kernel, by decide +kernel⟩, List.mem_of_getElem? (i := 112) (by decide +kernel), List.mem_of_getElem? (i := 475) (by decide +kernel), List.mem_of_getElem? (i := 476) (by decide +kernel)⟩
theorem lw_p6 : lw_okq (⟨"ButterflyCode$CodeText", "number", "(II)I"⟩, 7) := ⟨⟨by decide +kernel, by decide +kernel⟩, List.mem_of_getElem? (i := 112) (by decide +kernel), List.mem_of_getElem? (i := 479) (by decide +kernel), List.mem_of_getElem? (i := 480) (by decide +kernel)⟩
theorem lw_p7 : lw_okq (⟨"ButterflyCode$CodeText", "atDigit", "()Z"⟩, 7) := ⟨⟨by decide +kernel, by decide +kernel⟩, List.mem_of_getElem? (i := 112) (by decide +kernel), List.mem_of_getElem? (i := 483) (by decide +kernel), List.mem_of_getElem? (i := 484) (by decide +kernel)⟩
theorem lw_p8 : lw_okq (⟨"ButterflyCode$CodeText", "goesOn", "()Z"⟩, 7) := ⟨⟨by decide +kernel, by decide +kernel⟩, List.mem_of_getElem? (i := 112) (by decide +kernel), List.mem_of_getElem? (i := 488) (by decide +kernel), List.mem_of_getElem? (i := 489) (by decide +kernel)⟩
theorem lw_p9 : lw_okq (⟨"ButterflyCode$CodeText", "parseLine", "()V"⟩, 7) := ⟨⟨by decide +kernel, by decide +kernel⟩, List.mem_of_getElem? (i := 112) (by decide +kernel), List.mem_of_getElem? (i := 492) (by decide +kernel), List.mem_of_getElem? (i := 493) (by decide +kernel)⟩
theorem lw_p10 : lw_okq (⟨"ButterflyCode$CodeText", "whichWord", "(I)I"⟩, 7) := ⟨⟨by decide +kernel, by decide +kernel⟩, List.mem_of_getElem? (i := 112) (by decide +kernel), List.mem_of_getElem? (i := 496) (by decide +kernel), List.mem_of_getElem? (i := 497) (by decide +kernel)⟩
theorem lw_p11 : lw_okq (⟨"ButterflyCode$CodeText", "excludes", "(I)Z"⟩, 7) := ⟨⟨by decide +kernel, by decide +kernel⟩, List.mem_of_getElem? (i := 112) (by decide +kernel), List.mem_of_getElem? (i := 505) (by decide +kernel), List.mem_of_getElem? (i := 506) (by decide +kernel)⟩
theorem lw_p12 : lw_okq (⟨"ButterflyCode$CodeText", "wasTold", "(I)Z"⟩, 7) := ⟨⟨by decide +kernel, by decide +kernel⟩, List.mem_of_getElem? (i := 112) (by decide +kernel), List.mem_of_getElem? (i := 509) (by decide +kernel), List.mem_of_getElem? (i := 510) (by decide +kernel)⟩
theorem lw_p13 : lw_okq (⟨"ButterflyCode$CodeText", "parseNumbers", "(I)V"⟩, 7) := ⟨⟨by decide +kernel, by decide +kernel⟩, List.mem_of_getElem? (i := 112) (by decide +kernel), List.mem_of_getElem? (i := 513) (by decide +kernel), List.mem_of_getElem? (i := 514) (by decide +kernel)⟩
theorem lw_p14 : lw_okq (⟨"ButterflyCode$CodeText", "parseInfo", "()V"⟩, 7) := ⟨⟨by decide +kernel, by decide +kernel⟩, List.mem_of_getElem? (i := 112) (by decide +kernel), List.mem_of_getElem? (i := 517) (by decide +kernel), List.mem_of_getElem? (i := 518) (by decide +kernel)⟩
theorem lw_p15 : lw_okq (⟨"ButterflyCode$CodeText", "finish", "()V"⟩, 7) := ⟨⟨by decide +kernel, by decide +kernel⟩, List.mem_of_getElem? (i := 112) (by decide +kernel), List.mem_of_getElem? (i := 521) (by decide +kernel), List.mem_of_getElem? (i := 522) (by decide +kernel)⟩
def lw_privs_1 : List (MethodName × Nat) := [(⟨"ButterflyCode$CodeText", "setDefaults", "()V"⟩, 7), (⟨"ButterflyCode$CodeText", "parseSize", "()V"⟩, 7), (⟨"ButterflyCode$CodeText", "skipBlanks", "()V"⟩, 7), (⟨"ButterflyCode$CodeText", "skipLetters", "()V"⟩, 7), (⟨"ButterflyCode$CodeText", "isWord", "(ILjava/lang/String;)Z"⟩, 7), (⟨"ButterflyCode$CodeText", "blame", "(II)V"⟩, 7), (⟨"ButterflyCode$CodeText", "number", "(II)I"⟩, 7), (⟨"ButterflyCode$CodeText", "atDigit", "()Z"⟩, 7), (⟨"ButterflyCode$CodeText", "goesOn", "()Z"⟩, 7), (⟨"ButterflyCode$CodeText", "parseLine", "()V"⟩, 7), (⟨"ButterflyCode$CodeText", "whichWord", "(I)I"⟩, 7), (⟨"ButterflyCode$CodeText", "excludes", "(I)Z"⟩, 7), (⟨"ButterflyCode$CodeText", "wasTold", "(I)Z"⟩, 7), (⟨"ButterflyCode$CodeText", "parseNumbers", "(I)V"⟩, 7), (⟨"ButterflyCode$CodeText", "parseInfo", "()V"⟩, 7), (⟨"ButterflyCode$CodeText", "finish", "()V"⟩, 7)]
theorem lw_r1 : ∀ q ∈ lw_privs_1, lw_okq q := List.forall_mem_cons.mpr ⟨lw_p0, List.forall_mem_cons.mpr ⟨lw_p1, List.forall_mem_cons.mpr ⟨lw_p2, List.forall_mem_cons.mpr ⟨lw_p3, List.forall_mem_cons.mpr ⟨lw_p4, List.forall_mem_cons.mpr ⟨lw_p5, List.forall_mem_cons.mpr ⟨lw_p6, List.forall_mem_cons.mpr ⟨lw_p7, List.forall_mem_cons.mpr ⟨lw_p8, List.forall_mem_cons.mpr ⟨lw_p9, List.forall_mem_cons.mpr ⟨lw_p10, List.forall_mem_cons.mpr ⟨lw_p11, List.forall_mem_cons.mpr ⟨lw_p12, List.forall_mem_cons.mpr ⟨lw_p13, List.forall_mem_cons.mpr ⟨lw_p14, List.forall_mem_cons.mpr ⟨lw_p15, fun _ h => absurd h List.not_mem_nil⟩⟩⟩⟩⟩⟩⟩⟩⟩⟩⟩⟩⟩⟩⟩⟩
theorem lw_p16 : lw_okq (⟨"ButterflyCode$CodeText", "keepBest", "(I)V"⟩, 7) := ⟨⟨by decide +kernel, by decide +kernel⟩, List.mem_of_getElem? (i := 112) (by decide +kernel), List.mem_of_getElem? (i := 531) (by decide +kernel), List.mem_of_getElem? (i := 532) (by decide +kernel)⟩
theorem lw_p17 : lw_okq (⟨"ButterflyCode$CodeText", "bestLeft", "()I"⟩, 7) := ⟨⟨by decide +kernel, by decide +kernel⟩, List.mem_of_getElem? (i := 112) (by decide +kernel), List.mem_of_getElem? (i := 542) (by decide +kernel), List.mem_of_getElem? (i := 543) (by decide +kernel)⟩
theorem lw_p18 : lw_okq (⟨"ButterflyCode", "remember", "()V"⟩, 14) := ⟨⟨by decide +kernel, by decide +kernel⟩, List.mem_of_getElem? (i := 21) (by decide +kernel), List.mem_of_getElem? (i := 553) (by decide +kernel), List.mem_of_getElem? (i := 554) (by decide +kernel)⟩
theorem lw_p19 : lw_okq (⟨"ButterflyCode", "leastRow", "()I"⟩, 14) := ⟨⟨by decide +kernel, by decide +kernel⟩, List.mem_of_getElem? (i := 21) (by decide +kernel), List.mem_of_getElem? (i := 635) (by decide +kernel), List.mem_of_getElem? (i := 636) (by decide +kernel)⟩
theorem lw_p20 : lw_okq (⟨"ButterflyCode", "rowWeight", "(I)I"⟩, 14) := ⟨⟨by decide +kernel, by decide +kernel⟩, List.mem_of_getElem? (i := 21) (by decide +kernel), List.mem_of_getElem? (i := 639) (by decide +kernel), List.mem_of_getElem? (i := 640) (by decide +kernel)⟩
theorem lw_p21 : lw_okq (⟨"ButterflyCode", "transmit", "(JII[I)V"⟩, 14) := ⟨⟨by decide +kernel, by decide +kernel⟩, List.mem_of_getElem? (i := 21) (by decide +kernel), List.mem_of_getElem? (i := 661) (by decide +kernel), List.mem_of_getElem? (i := 662) (by decide +kernel)⟩
theorem lw_p22 : lw_okq (⟨"ButterflyCode", "draw", "(I)I"⟩, 14) := ⟨⟨by decide +kernel, by decide +kernel⟩, List.mem_of_getElem? (i := 21) (by decide +kernel), List.mem_of_getElem? (i := 665) (by decide +kernel), List.mem_of_getElem? (i := 666) (by decide +kernel)⟩
theorem lw_p23 : lw_okq (⟨"ButterflyCode", "readHeard", "()V"⟩, 14) := ⟨⟨by decide +kernel, by decide +kernel⟩, List.mem_of_getElem? (i := 21) (by decide +kernel), List.mem_of_getElem? (i := 699) (by decide +kernel), List.mem_of_getElem? (i := 700) (by decide +kernel)⟩
theorem lw_p24 : lw_okq (⟨"ButterflyCode$Reader", "readNodes", "(I)I"⟩, 16) := ⟨⟨by decide +kernel, by decide +kernel⟩, List.mem_of_getElem? (i := 144) (by decide +kernel), List.mem_of_getElem? (i := 715) (by decide +kernel), List.mem_of_getElem? (i := 716) (by decide +kernel)⟩
theorem lw_p25 : lw_okq (⟨"ButterflyCode$Reader", "reckonRight", "(II)V"⟩, 16) := ⟨⟨by decide +kernel, by decide +kernel⟩, List.mem_of_getElem? (i := 144) (by decide +kernel), List.mem_of_getElem? (i := 723) (by decide +kernel), List.mem_of_getElem? (i := 724) (by decide +kernel)⟩
theorem lw_p26 : lw_okq (⟨"ButterflyCode$Reader", "pathStart", "(II)I"⟩, 16) := ⟨⟨by decide +kernel, by decide +kernel⟩, List.mem_of_getElem? (i := 144) (by decide +kernel), List.mem_of_getElem? (i := 727) (by decide +kernel), List.mem_of_getElem? (i := 728) (by decide +kernel)⟩
theorem lw_p27 : lw_okq (⟨"ButterflyCode$Reader", "isCutShort", "(II)Z"⟩, 16) := ⟨⟨by decide +kernel, by decide +kernel⟩, List.mem_of_getElem? (i := 144) (by decide +kernel), List.mem_of_getElem? (i := 736) (by decide +kernel), List.mem_of_getElem? (i := 737) (by decide +kernel)⟩
theorem lw_p28 : lw_okq (⟨"ButterflyCode$Reader", "freezeNode", "(I)V"⟩, 16) := ⟨⟨by decide +kernel, by decide +kernel⟩, List.mem_of_getElem? (i := 144) (by decide +kernel), List.mem_of_getElem? (i := 740) (by decide +kernel), List.mem_of_getElem? (i := 741) (by decide +kernel)⟩
theorem lw_p29 : lw_okq (⟨"ButterflyCode$Reader", "hasZeroSum", "(I)Z"⟩, 16) := ⟨⟨by decide +kernel, by decide +kernel⟩, List.mem_of_getElem? (i := 144) (by decide +kernel), List.mem_of_getElem? (i := 745) (by decide +kernel), List.mem_of_getElem? (i := 746) (by decide +kernel)⟩
theorem lw_p30 : lw_okq (⟨"ButterflyCode$Reader", "takeNode", "(II)V"⟩, 16) := ⟨⟨by decide +kernel, by decide +kernel⟩, List.mem_of_getElem? (i := 144) (by decide +kernel), List.mem_of_getElem? (i := 749) (by decide +kernel), List.mem_of_getElem? (i := 750) (by decide +kernel)⟩
theorem lw_p31 : lw_okq (⟨"ButterflyCode$Reader", "reckonLeft", "(I)V"⟩, 16) := ⟨⟨by decide +kernel, by decide +kernel⟩, List.mem_of_getElem? (i := 144) (by decide +kernel), List.mem_of_getElem? (i := 753) (by decide +kernel), List.mem_of_getElem? (i := 754) (by decide +kernel)⟩
def lw_privs_2 : List (MethodName × Nat) := [(⟨"ButterflyCode$CodeText", "keepBest", "(I)V"⟩, 7), (⟨"ButterflyCode$CodeText", "bestLeft", "()I"⟩, 7), (⟨"ButterflyCode", "remember", "()V"⟩, 14), (⟨"ButterflyCode", "leastRow", "()I"⟩, 14), (⟨"ButterflyCode", "rowWeight", "(I)I"⟩, 14), (⟨"ButterflyCode", "transmit", "(JII[I)V"⟩, 14), (⟨"ButterflyCode", "draw", "(I)I"⟩, 14), (⟨"ButterflyCode", "readHeard", "()V"⟩, 14), (⟨"ButterflyCode$Reader", "readNodes", "(I)I"⟩, 16), (⟨"ButterflyCode$Reader", "reckonRight", "(II)V"⟩, 16), (⟨"ButterflyCode$Reader", "pathStart", "(II)I"⟩, 16), (⟨"ButterflyCode$Reader", "isCutShort", "(II)Z"⟩, 16), (⟨"ButterflyCode$Reader", "freezeNode", "(I)V"⟩, 16), (⟨"ButterflyCode$Reader", "hasZeroSum", "(I)Z"⟩, 16), (⟨"ButterflyCode$Reader", "takeNode", "(II)V"⟩, 16), (⟨"ButterflyCode$Reader", "reckonLeft", "(I)V"⟩, 16)]
theorem lw_r2 : ∀ q ∈ lw_privs_2, lw_okq q := List.forall_mem_cons.mpr ⟨lw_p16, List.forall_mem_cons.mpr ⟨lw_p17, List.forall_mem_cons.mpr ⟨lw_p18, List.forall_mem_cons.mpr ⟨lw_p19, List.forall_mem_cons.mpr ⟨lw_p20, List.forall_mem_cons.mpr ⟨lw_p21, List.forall_mem_cons.mpr ⟨lw_p22, List.forall_mem_cons.mpr ⟨lw_p23, List.forall_mem_cons.mpr ⟨lw_p24, List.forall_mem_cons.mpr ⟨lw_p25, List.forall_mem_cons.mpr ⟨lw_p26, List.forall_mem_cons.mpr ⟨lw_p27, List.forall_mem_cons.mpr ⟨lw_p28, List.forall_mem_cons.mpr ⟨lw_p29, List.forall_mem_cons.mpr ⟨lw_p30, List.forall_mem_cons.mpr ⟨lw_p31, fun _ h => absurd h List.not_mem_nil⟩⟩⟩⟩⟩⟩⟩⟩⟩⟩⟩⟩⟩⟩⟩⟩
theorem lw_p32 : lw_okq (⟨"ButterflyCode$Reader", "decide", "(I)V"⟩, 16) := ⟨⟨by decide +kernel, by decide +kernel⟩, List.mem_of_getElem? (i := 144) (by decide +kernel), List.mem_of_getElem? (i := 763) (by decide +kernel), List.mem_of_getElem? (i := 764) (by decide +kernel)⟩
theorem lw_p33 : lw_okq (⟨"ButterflyCode$Reader", "freeze", "(I)V"⟩, 16) := ⟨⟨by decide +kernel, by decide +kernel⟩, List.mem_of_getElem? (i := 144) (by decide +kernel), List.mem_of_getElem? (i := 769) (by decide +kernel), List.mem_of_getElem? (i := 770) (by decide +kernel)⟩
theorem lw_p34 : lw_okq (⟨"ButterflyCode$Reader", "takeOther", "(I)V"⟩, 16) := ⟨⟨by decide +kernel, by decide +kernel⟩, List.mem_of_getElem? (i := 144) (by decide +kernel), List.mem_of_getElem? (i := 777) (by decide +kernel), List.mem_of_getElem? (i := 778) (by decide +kernel)⟩
theorem lw_p35 : lw_okq (⟨"ButterflyCode$Reader", "split", "(I)V"⟩, 16) := ⟨⟨by decide +kernel, by decide +kernel⟩, List.mem_of_getElem? (i := 144) (by decide +kernel), List.mem_of_getElem? (i := 781) (by decide +kernel), List.mem_of_getElem? (i := 782) (by decide +kernel)⟩
theorem lw_p36 : lw_okq (⟨"ButterflyCode$Reader", "sortIn", "(I)V"⟩, 16) := ⟨⟨by decide +kernel, by decide +kernel⟩, List.mem_of_getElem? (i := 144) (by decide +kernel), List.mem_of_getElem? (i := 785) (by decide +kernel), List.mem_of_getElem? (i := 786) (by decide +kernel)⟩
theorem lw_p37 : lw_okq (⟨"ButterflyCode$Reader", "choose", "()V"⟩, 16) := ⟨⟨by decide +kernel, by decide +kernel⟩, List.mem_of_getElem? (i := 144) (by decide +kernel), List.mem_of_getElem? (i := 797) (by decide +kernel), List.mem_of_getElem? (i := 798) (by decide +kernel)⟩
theorem lw_p38 : lw_okq (⟨"ButterflyCode$Flips", "leastSure", "(J)I"⟩, 5) := ⟨⟨by decide +kernel, by decide +kernel⟩, List.mem_of_getElem? (i := 258) (by decide +kernel), List.mem_of_getElem? (i := 843) (by decide +kernel), List.mem_of_getElem? (i := 844) (by decide +kernel)⟩
theorem lw_p39 : lw_okq (⟨"ButterflyCode$Seeker", "push", "(IIJ)V"⟩, 8) := ⟨⟨by decide +kernel, by decide +kernel⟩, List.mem_of_getElem? (i := 284) (by decide +kernel), List.mem_of_getElem? (i := 857) (by decide +kernel), List.mem_of_getElem? (i := 858) (by decide +kernel)⟩
theorem lw_p40 : lw_okq (⟨"ButterflyCode$Seeker", "move", "(II)V"⟩, 8) := ⟨⟨by decide +kernel, by decide +kernel⟩, List.mem_of_getElem? (i := 284) (by decide +kernel), List.mem_of_getElem? (i := 864) (by decide +kernel), List.mem_of_getElem? (i := 865) (by decide +kernel)⟩
theorem lw_p41 : lw_okq (⟨"ButterflyCode$Seeker", "goOn", "(LButterflyCode$State;)V"⟩, 8) := ⟨⟨by decide +kernel, by decide +kernel⟩, List.mem_of_getElem? (i := 284) (by decide +kernel), List.mem_of_getElem? (i := 868) (by decide +kernel), List.mem_of_getElem? (i := 869) (by decide +kernel)⟩
theorem lw_p42 : lw_okq (⟨"ButterflyCode$Seeker", "dropFirst", "()V"⟩, 8) := ⟨⟨by decide +kernel, by decide +kernel⟩, List.mem_of_getElem? (i := 284) (by decide +kernel), List.mem_of_getElem? (i := 872) (by decide +kernel), List.mem_of_getElem? (i := 873) (by decide +kernel)⟩
theorem lw_p43 : lw_okq (⟨"ButterflyCode$Seeker", "firstChild", "(I)I"⟩, 8) := ⟨⟨by decide +kernel, by decide +kernel⟩, List.mem_of_getElem? (i := 284) (by decide +kernel), List.mem_of_getElem? (i := 876) (by decide +kernel), List.mem_of_getElem? (i := 877) (by decide +kernel)⟩
theorem lw_p44 : lw_okq (⟨"ButterflyCode$Seeker", "grow", "(LButterflyCode$State;IIJ)V"⟩, 8) := ⟨⟨by decide +kernel, by decide +kernel⟩, List.mem_of_getElem? (i := 284) (by decide +kernel), List.mem_of_getElem? (i := 880) (by decide +kernel), List.mem_of_getElem? (i := 881) (by decide +kernel)⟩
theorem lw_p45 : lw_okq (⟨"ButterflyCode$Seeker", "sumAt", "(LButterflyCode$State;IJ)I"⟩, 8) := ⟨⟨by decide +kernel, by decide +kernel⟩, List.mem_of_getElem? (i := 284) (by decide +kernel), List.mem_of_getElem? (i := 884) (by decide +kernel), List.mem_of_getElem? (i := 885) (by decide +kernel)⟩
theorem lw_p46 : lw_okq (⟨"ButterflyCode$AllWords", "makeBasis", "(LButterflyCode$State;)V"⟩, 4) := ⟨⟨by decide +kernel, by decide +kernel⟩, List.mem_of_getElem? (i := 319) (by decide +kernel), List.mem_of_getElem? (i := 908) (by decide +kernel), List.mem_of_getElem? (i := 909) (by decide +kernel)⟩
theorem lw_p47 : lw_okq (⟨"ButterflyCode$AllWords", "makePlanes", "(LButterflyCode$State;)V"⟩, 4) := ⟨⟨by decide +kernel, by decide +kernel⟩, List.mem_of_getElem? (i := 319) (by decide +kernel), List.mem_of_getElem? (i := 913) (by decide +kernel), List.mem_of_getElem? (i := 914) (by decide +kernel)⟩
def lw_privs_3 : List (MethodName × Nat) := [(⟨"ButterflyCode$Reader", "decide", "(I)V"⟩, 16), (⟨"ButterflyCode$Reader", "freeze", "(I)V"⟩, 16), (⟨"ButterflyCode$Reader", "takeOther", "(I)V"⟩, 16), (⟨"ButterflyCode$Reader", "split", "(I)V"⟩, 16), (⟨"ButterflyCode$Reader", "sortIn", "(I)V"⟩, 16), (⟨"ButterflyCode$Reader", "choose", "()V"⟩, 16), (⟨"ButterflyCode$Flips", "leastSure", "(J)I"⟩, 5), (⟨"ButterflyCode$Seeker", "push", "(IIJ)V"⟩, 8), (⟨"ButterflyCode$Seeker", "move", "(II)V"⟩, 8), (⟨"ButterflyCode$Seeker", "goOn", "(LButterflyCode$State;)V"⟩, 8), (⟨"ButterflyCode$Seeker", "dropFirst", "()V"⟩, 8), (⟨"ButterflyCode$Seeker", "firstChild", "(I)I"⟩, 8), (⟨"ButterflyCode$Seeker", "grow", "(LButterflyCode$State;IIJ)V"⟩, 8), (⟨"ButterflyCode$Seeker", "sumAt", "(LButterflyCode$State;IJ)I"⟩, 8), (⟨"ButterflyCode$AllWords", "makeBasis", "(LButterflyCode$State;)V"⟩, 4), (⟨"ButterflyCode$AllWords", "makePlanes", "(LButterflyCode$State;)V"⟩, 4)]
theorem lw_r3 : ∀ q ∈ lw_privs_3, lw_okq q := List.forall_mem_cons.mpr ⟨lw_p32, List.forall_mem_cons.mpr ⟨lw_p33, List.forall_mem_cons.mpr ⟨lw_p34, List.forall_mem_cons.mpr ⟨lw_p35, List.forall_mem_cons.mpr ⟨lw_p36, List.forall_mem_cons.mpr ⟨lw_p37, List.forall_mem_cons.mpr ⟨lw_p38, List.forall_mem_cons.mpr ⟨lw_p39, List.forall_mem_cons.mpr ⟨lw_p40, List.forall_mem_cons.mpr ⟨lw_p41, List.forall_mem_cons.mpr ⟨lw_p42, List.forall_mem_cons.mpr ⟨lw_p43, List.forall_mem_cons.mpr ⟨lw_p44, List.forall_mem_cons.mpr ⟨lw_p45, List.forall_mem_cons.mpr ⟨lw_p46, List.forall_mem_cons.mpr ⟨lw_p47, fun _ h => absurd h List.not_mem_nil⟩⟩⟩⟩⟩⟩⟩⟩⟩⟩⟩⟩⟩⟩⟩⟩
theorem lw_p48 : lw_okq (⟨"ButterflyCode$AllWords", "weigh", "(J)I"⟩, 4) := ⟨⟨by decide +kernel, by decide +kernel⟩, List.mem_of_getElem? (i := 319) (by decide +kernel), List.mem_of_getElem? (i := 921) (by decide +kernel), List.mem_of_getElem? (i := 922) (by decide +kernel)⟩
theorem lw_p49 : lw_okq (⟨"ButterflyCode$AllWords", "consider", "(II)V"⟩, 4) := ⟨⟨by decide +kernel, by decide +kernel⟩, List.mem_of_getElem? (i := 319) (by decide +kernel), List.mem_of_getElem? (i := 927) (by decide +kernel), List.mem_of_getElem? (i := 928) (by decide +kernel)⟩
theorem lw_p50 : lw_okq (⟨"ButterflyCode", "readsFrameRight", "(II)Z"⟩, 14) := ⟨⟨by decide +kernel, by decide +kernel⟩, List.mem_of_getElem? (i := 21) (by decide +kernel), List.mem_of_getElem? (i := 947) (by decide +kernel), List.mem_of_getElem? (i := 948) (by decide +kernel)⟩
theorem lw_p51 : lw_okq (⟨"ButterflyCodeModel", "readsAll", "()Z"⟩, 54) := ⟨⟨by decide +kernel, by decide +kernel⟩, List.mem_of_getElem? (i := 971) (by decide +kernel), List.mem_of_getElem? (i := 1155) (by decide +kernel), List.mem_of_getElem? (i := 1156) (by decide +kernel)⟩
theorem lw_p52 : lw_okq (⟨"ButterflyCodeModel", "readsLine", "(Z)Z"⟩, 54) := ⟨⟨by decide +kernel, by decide +kernel⟩, List.mem_of_getElem? (i := 971) (by decide +kernel), List.mem_of_getElem? (i := 1159) (by decide +kernel), List.mem_of_getElem? (i := 1160) (by decide +kernel)⟩
theorem lw_p53 : lw_okq (⟨"ButterflyCodeModel", "wordHere", "()I"⟩, 54) := ⟨⟨by decide +kernel, by decide +kernel⟩, List.mem_of_getElem? (i := 971) (by decide +kernel), List.mem_of_getElem? (i := 1163) (by decide +kernel), List.mem_of_getElem? (i := 1164) (by decide +kernel)⟩
theorem lw_p54 : lw_okq (⟨"ButterflyCodeModel", "next", "()I"⟩, 54) := ⟨⟨by decide +kernel, by decide +kernel⟩, List.mem_of_getElem? (i := 971) (by decide +kernel), List.mem_of_getElem? (i := 1167) (by decide +kernel), List.mem_of_getElem? (i := 1168) (by decide +kernel)⟩
theorem lw_p55 : lw_okq (⟨"ButterflyCodeModel", "byteAt", "(I)I"⟩, 54) := ⟨⟨by decide +kernel, by decide +kernel⟩, List.mem_of_getElem? (i := 971) (by decide +kernel), List.mem_of_getElem? (i := 1171) (by decide +kernel), List.mem_of_getElem? (i := 1172) (by decide +kernel)⟩
theorem lw_p56 : lw_okq (⟨"ButterflyCodeModel", "fails", "(II)Z"⟩, 54) := ⟨⟨by decide +kernel, by decide +kernel⟩, List.mem_of_getElem? (i := 971) (by decide +kernel), List.mem_of_getElem? (i := 1178) (by decide +kernel), List.mem_of_getElem? (i := 1179) (by decide +kernel)⟩
theorem lw_p57 : lw_okq (⟨"ButterflyCodeModel", "reads", "(II)Z"⟩, 54) := ⟨⟨by decide +kernel, by decide +kernel⟩, List.mem_of_getElem? (i := 971) (by decide +kernel), List.mem_of_getElem? (i := 1182) (by decide +kernel), List.mem_of_getElem? (i := 1183) (by decide +kernel)⟩
theorem lw_p58 : lw_okq (⟨"ButterflyCodeModel", "readsInfo", "()Z"⟩, 54) := ⟨⟨by decide +kernel, by decide +kernel⟩, List.mem_of_getElem? (i := 971) (by decide +kernel), List.mem_of_getElem? (i := 1192) (by decide +kernel), List.mem_of_getElem? (i := 1193) (by decide +kernel)⟩
theorem lw_p59 : lw_okq (⟨"ButterflyCodeModel", "keepsAct", "()V"⟩, 54) := ⟨⟨by decide +kernel, by decide +kernel⟩, List.mem_of_getElem? (i := 971) (by decide +kernel), List.mem_of_getElem? (i := 1202) (by decide +kernel), List.mem_of_getElem? (i := 1203) (by decide +kernel)⟩
theorem lw_p60 : lw_okq (⟨"ButterflyCodeModel", "keeps", "(I)V"⟩, 54) := ⟨⟨by decide +kernel, by decide +kernel⟩, List.mem_of_getElem? (i := 971) (by decide +kernel), List.mem_of_getElem? (i := 1206) (by decide +kernel), List.mem_of_getElem? (i := 1207) (by decide +kernel)⟩
theorem lw_p61 : lw_okq (⟨"ButterflyCodeModel", "keptBy", "(I)J"⟩, 54) := ⟨⟨by decide +kernel, by decide +kernel⟩, List.mem_of_getElem? (i := 971) (by decide +kernel), List.mem_of_getElem? (i := 1210) (by decide +kernel), List.mem_of_getElem? (i := 1211) (by decide +kernel)⟩
theorem lw_p62 : lw_okq (⟨"ButterflyCodeModel", "isBetter", "(II)Z"⟩, 54) := ⟨⟨by decide +kernel, by decide +kernel⟩, List.mem_of_getElem? (i := 971) (by decide +kernel), List.mem_of_getElem? (i := 1214) (by decide +kernel), List.mem_of_getElem? (i := 1215) (by decide +kernel)⟩
theorem lw_p63 : lw_okq (⟨"ButterflyCodeModel", "zOf", "(I)J"⟩, 54) := ⟨⟨by decide +kernel, by decide +kernel⟩, List.mem_of_getElem? (i := 971) (by decide +kernel), List.mem_of_getElem? (i := 1218) (by decide +kernel), List.mem_of_getElem? (i := 1219) (by decide +kernel)⟩
def lw_privs_4 : List (MethodName × Nat) := [(⟨"ButterflyCode$AllWords", "weigh", "(J)I"⟩, 4), (⟨"ButterflyCode$AllWords", "consider", "(II)V"⟩, 4), (⟨"ButterflyCode", "readsFrameRight", "(II)Z"⟩, 14), (⟨"ButterflyCodeModel", "readsAll", "()Z"⟩, 54), (⟨"ButterflyCodeModel", "readsLine", "(Z)Z"⟩, 54), (⟨"ButterflyCodeModel", "wordHere", "()I"⟩, 54), (⟨"ButterflyCodeModel", "next", "()I"⟩, 54), (⟨"ButterflyCodeModel", "byteAt", "(I)I"⟩, 54), (⟨"ButterflyCodeModel", "fails", "(II)Z"⟩, 54), (⟨"ButterflyCodeModel", "reads", "(II)Z"⟩, 54), (⟨"ButterflyCodeModel", "readsInfo", "()Z"⟩, 54), (⟨"ButterflyCodeModel", "keepsAct", "()V"⟩, 54), (⟨"ButterflyCodeModel", "keeps", "(I)V"⟩, 54), (⟨"ButterflyCodeModel", "keptBy", "(I)J"⟩, 54), (⟨"ButterflyCodeModel", "isBetter", "(II)Z"⟩, 54), (⟨"ButterflyCodeModel", "zOf", "(I)J"⟩, 54)]
theorem lw_r4 : ∀ q ∈ lw_privs_4, lw_okq q := List.forall_mem_cons.mpr ⟨lw_p48, List.forall_mem_cons.mpr ⟨lw_p49, List.forall_mem_cons.mpr ⟨lw_p50, List.forall_mem_cons.mpr ⟨lw_p51, List.forall_mem_cons.mpr ⟨lw_p52, List.forall_mem_cons.mpr ⟨lw_p53, List.forall_mem_cons.mpr ⟨lw_p54, List.forall_mem_cons.mpr ⟨lw_p55, List.forall_mem_cons.mpr ⟨lw_p56, List.forall_mem_cons.mpr ⟨lw_p57, List.forall_mem_cons.mpr ⟨lw_p58, List.forall_mem_cons.mpr ⟨lw_p59, List.forall_mem_cons.mpr ⟨lw_p60, List.forall_mem_cons.mpr ⟨lw_p61, List.forall_mem_cons.mpr ⟨lw_p62, List.forall_mem_cons.mpr ⟨lw_p63, fun _ h => absurd h List.not_mem_nil⟩⟩⟩⟩⟩⟩⟩⟩⟩⟩⟩⟩⟩⟩⟩⟩
theorem lw_p64 : lw_okq (⟨"ButterflyCodeModel", "isChannel", "(I)Z"⟩, 54) := ⟨⟨by decide +kernel, by decide +kernel⟩, List.mem_of_getElem? (i := 971) (by decide +kernel), List.mem_of_getElem? (i := 1229) (by decide +kernel), List.mem_of_getElem? (i := 1230) (by decide +kernel)⟩
theorem lw_p65 : lw_okq (⟨"ButterflyCodeModel", "fits", "(J)Z"⟩, 54) := ⟨⟨by decide +kernel, by decide +kernel⟩, List.mem_of_getElem? (i := 971) (by decide +kernel), List.mem_of_getElem? (i := 1242) (by decide +kernel), List.mem_of_getElem? (i := 1243) (by decide +kernel)⟩
theorem lw_p66 : lw_okq (⟨"ButterflyCodeModel", "isCode", "()Z"⟩, 54) := ⟨⟨by decide +kernel, by decide +kernel⟩, List.mem_of_getElem? (i := 971) (by decide +kernel), List.mem_of_getElem? (i := 1246) (by decide +kernel), List.mem_of_getElem? (i := 1247) (by decide +kernel)⟩
theorem lw_p67 : lw_okq (⟨"ButterflyCodeModel", "channelsOf", "(J)J"⟩, 54) := ⟨⟨by decide +kernel, by decide +kernel⟩, List.mem_of_getElem? (i := 971) (by decide +kernel), List.mem_of_getElem? (i := 1250) (by decide +kernel), List.mem_of_getElem? (i := 1251) (by decide +kernel)⟩
theorem lw_p68 : lw_okq (⟨"ButterflyCodeModel", "checkOf", "(J)I"⟩, 54) := ⟨⟨by decide +kernel, by decide +kernel⟩, List.mem_of_getElem? (i := 971) (by decide +kernel), List.mem_of_getElem? (i := 1254) (by decide +kernel), List.mem_of_getElem? (i := 1255) (by decide +kernel)⟩
theorem lw_p69 : lw_okq (⟨"ButterflyCodeModel", "spread", "(J)J"⟩, 54) := ⟨⟨by decide +kernel, by decide +kernel⟩, List.mem_of_getElem? (i := 971) (by decide +kernel), List.mem_of_getElem? (i := 1269) (by decide +kernel), List.mem_of_getElem? (i := 1270) (by decide +kernel)⟩
theorem lw_p70 : lw_okq (⟨"ButterflyCodeModel", "sends", "(JII)V"⟩, 54) := ⟨⟨by decide +kernel, by decide +kernel⟩, List.mem_of_getElem? (i := 971) (by decide +kernel), List.mem_of_getElem? (i := 1296) (by decide +kernel), List.mem_of_getElem? (i := 1297) (by decide +kernel)⟩
theorem lw_p71 : lw_okq (⟨"ButterflyCodeModel", "draw", "(I)I"⟩, 54) := ⟨⟨by decide +kernel, by decide +kernel⟩, List.mem_of_getElem? (i := 971) (by decide +kernel), List.mem_of_getElem? (i := 1300) (by decide +kernel), List.mem_of_getElem? (i := 1301) (by decide +kernel)⟩
theorem lw_p72 : lw_okq (⟨"ButterflyCodeModel", "distanceOf", "(J)I"⟩, 54) := ⟨⟨by decide +kernel, by decide +kernel⟩, List.mem_of_getElem? (i := 971) (by decide +kernel), List.mem_of_getElem? (i := 1316) (by decide +kernel), List.mem_of_getElem? (i := 1317) (by decide +kernel)⟩
theorem lw_p73 : lw_okq (⟨"ButterflyCodeModel", "reading", "(I)V"⟩, 54) := ⟨⟨by decide +kernel, by decide +kernel⟩, List.mem_of_getElem? (i := 971) (by decide +kernel), List.mem_of_getElem? (i := 1329) (by decide +kernel), List.mem_of_getElem? (i := 1330) (by decide +kernel)⟩
theorem lw_p74 : lw_okq (⟨"ButterflyCodeModel", "branches", "(I)I"⟩, 54) := ⟨⟨by decide +kernel, by decide +kernel⟩, List.mem_of_getElem? (i := 971) (by decide +kernel), List.mem_of_getElem? (i := 1333) (by decide +kernel), List.mem_of_getElem? (i := 1334) (by decide +kernel)⟩
theorem lw_p75 : lw_okq (⟨"ButterflyCodeModel", "sumAt", "(JI)I"⟩, 54) := ⟨⟨by decide +kernel, by decide +kernel⟩, List.mem_of_getElem? (i := 971) (by decide +kernel), List.mem_of_getElem? (i := 1337) (by decide +kernel), List.mem_of_getElem? (i := 1338) (by decide +kernel)⟩
theorem lw_p76 : lw_okq (⟨"ButterflyCodeModel", "laysNode", "(JII)V"⟩, 54) := ⟨⟨by decide +kernel, by decide +kernel⟩, List.mem_of_getElem? (i := 971) (by decide +kernel), List.mem_of_getElem? (i := 1341) (by decide +kernel), List.mem_of_getElem? (i := 1342) (by decide +kernel)⟩
theorem lw_p77 : lw_okq (⟨"ButterflyCodeModel", "leastOf", "(I)I"⟩, 54) := ⟨⟨by decide +kernel, by decide +kernel⟩, List.mem_of_getElem? (i := 971) (by decide +kernel), List.mem_of_getElem? (i := 1351) (by decide +kernel), List.mem_of_getElem? (i := 1352) (by decide +kernel)⟩
theorem lw_p78 : lw_okq (⟨"ButterflyCodeModel", "takes", "(III)V"⟩, 54) := ⟨⟨by decide +kernel, by decide +kernel⟩, List.mem_of_getElem? (i := 971) (by decide +kernel), List.mem_of_getElem? (i := 1355) (by decide +kernel), List.mem_of_getElem? (i := 1356) (by decide +kernel)⟩
theorem lw_p79 : lw_okq (⟨"ButterflyCodeModel", "chosen", "()I"⟩, 54) := ⟨⟨by decide +kernel, by decide +kernel⟩, List.mem_of_getElem? (i := 971) (by decide +kernel), List.mem_of_getElem? (i := 1359) (by decide +kernel), List.mem_of_getElem? (i := 1360) (by decide +kernel)⟩
def lw_privs_5 : List (MethodName × Nat) := [(⟨"ButterflyCodeModel", "isChannel", "(I)Z"⟩, 54), (⟨"ButterflyCodeModel", "fits", "(J)Z"⟩, 54), (⟨"ButterflyCodeModel", "isCode", "()Z"⟩, 54), (⟨"ButterflyCodeModel", "channelsOf", "(J)J"⟩, 54), (⟨"ButterflyCodeModel", "checkOf", "(J)I"⟩, 54), (⟨"ButterflyCodeModel", "spread", "(J)J"⟩, 54), (⟨"ButterflyCodeModel", "sends", "(JII)V"⟩, 54), (⟨"ButterflyCodeModel", "draw", "(I)I"⟩, 54), (⟨"ButterflyCodeModel", "distanceOf", "(J)I"⟩, 54), (⟨"ButterflyCodeModel", "reading", "(I)V"⟩, 54), (⟨"ButterflyCodeModel", "branches", "(I)I"⟩, 54), (⟨"ButterflyCodeModel", "sumAt", "(JI)I"⟩, 54), (⟨"ButterflyCodeModel", "laysNode", "(JII)V"⟩, 54), (⟨"ButterflyCodeModel", "leastOf", "(I)I"⟩, 54), (⟨"ButterflyCodeModel", "takes", "(III)V"⟩, 54), (⟨"ButterflyCodeModel", "chosen", "()I"⟩, 54)]
theorem lw_r5 : ∀ q ∈ lw_privs_5, lw_okq q := List.forall_mem_cons.mpr ⟨lw_p64, List.forall_mem_cons.mpr ⟨lw_p65, List.forall_mem_cons.mpr ⟨lw_p66, List.forall_mem_cons.mpr ⟨lw_p67, List.forall_mem_cons.mpr ⟨lw_p68, List.forall_mem_cons.mpr ⟨lw_p69, List.forall_mem_cons.mpr ⟨lw_p70, List.forall_mem_cons.mpr ⟨lw_p71, List.forall_mem_cons.mpr ⟨lw_p72, List.forall_mem_cons.mpr ⟨lw_p73, List.forall_mem_cons.mpr ⟨lw_p74, List.forall_mem_cons.mpr ⟨lw_p75, List.forall_mem_cons.mpr ⟨lw_p76, List.forall_mem_cons.mpr ⟨lw_p77, List.forall_mem_cons.mpr ⟨lw_p78, List.forall_mem_cons.mpr ⟨lw_p79, fun _ h => absurd h List.not_mem_nil⟩⟩⟩⟩⟩⟩⟩⟩⟩⟩⟩⟩⟩⟩⟩⟩
theorem lw_p80 : lw_okq (⟨"ButterflyCodeModel", "firstThatHolds", "()I"⟩, 54) := ⟨⟨by decide +kernel, by decide +kernel⟩, List.mem_of_getElem? (i := 971) (by decide +kernel), List.mem_of_getElem? (i := 1363) (by decide +kernel), List.mem_of_getElem? (i := 1364) (by decide +kernel)⟩
theorem lw_p81 : lw_okq (⟨"ButterflyCodeModel", "holds", "(J)Z"⟩, 54) := ⟨⟨by decide +kernel, by decide +kernel⟩, List.mem_of_getElem? (i := 971) (by decide +kernel), List.mem_of_getElem? (i := 1367) (by decide +kernel), List.mem_of_getElem? (i := 1368) (by decide +kernel)⟩
theorem lw_p82 : lw_okq (⟨"ButterflyCodeModel", "messageOf", "(J)J"⟩, 54) := ⟨⟨by decide +kernel, by decide +kernel⟩, List.mem_of_getElem? (i := 971) (by decide +kernel), List.mem_of_getElem? (i := 1371) (by decide +kernel), List.mem_of_getElem? (i := 1372) (by decide +kernel)⟩
theorem lw_p83 : lw_okq (⟨"ButterflyCodeModel", "works", "(IZ)V"⟩, 54) := ⟨⟨by decide +kernel, by decide +kernel⟩, List.mem_of_getElem? (i := 971) (by decide +kernel), List.mem_of_getElem? (i := 1392) (by decide +kernel), List.mem_of_getElem? (i := 1393) (by decide +kernel)⟩
theorem lw_p84 : lw_okq (⟨"ButterflyCodeModel", "isGoneTo", "(IZII)Z"⟩, 54) := ⟨⟨by decide +kernel, by decide +kernel⟩, List.mem_of_getElem? (i := 971) (by decide +kernel), List.mem_of_getElem? (i := 1396) (by decide +kernel), List.mem_of_getElem? (i := 1397) (by decide +kernel)⟩
theorem lw_p85 : lw_okq (⟨"ButterflyCodeModel", "isCut", "(III)Z"⟩, 54) := ⟨⟨by decide +kernel, by decide +kernel⟩, List.mem_of_getElem? (i := 971) (by decide +kernel), List.mem_of_getElem? (i := 1400) (by decide +kernel), List.mem_of_getElem? (i := 1401) (by decide +kernel)⟩
theorem lw_p86 : lw_okq (⟨"ButterflyCodeModel", "isAll", "(IIZ)Z"⟩, 54) := ⟨⟨by decide +kernel, by decide +kernel⟩, List.mem_of_getElem? (i := 971) (by decide +kernel), List.mem_of_getElem? (i := 1404) (by decide +kernel), List.mem_of_getElem? (i := 1405) (by decide +kernel)⟩
theorem lw_p87 : lw_okq (⟨"ButterflyCodeModel", "isSure", "(II)Z"⟩, 54) := ⟨⟨by decide +kernel, by decide +kernel⟩, List.mem_of_getElem? (i := 971) (by decide +kernel), List.mem_of_getElem? (i := 1408) (by decide +kernel), List.mem_of_getElem? (i := 1409) (by decide +kernel)⟩
theorem lw_p88 : lw_okq (⟨"ButterflyCodeModel", "pathsAhead", "(II)I"⟩, 54) := ⟨⟨by decide +kernel, by decide +kernel⟩, List.mem_of_getElem? (i := 971) (by decide +kernel), List.mem_of_getElem? (i := 1412) (by decide +kernel), List.mem_of_getElem? (i := 1413) (by decide +kernel)⟩
theorem lw_p89 : lw_okq (⟨"ButterflyCodeModel", "leastSure", "(J)I"⟩, 54) := ⟨⟨by decide +kernel, by decide +kernel⟩, List.mem_of_getElem? (i := 971) (by decide +kernel), List.mem_of_getElem? (i := 1424) (by decide +kernel), List.mem_of_getElem? (i := 1425) (by decide +kernel)⟩
theorem lw_p90 : lw_okq (⟨"ButterflyCodeModel", "readsTurned", "(I)V"⟩, 54) := ⟨⟨by decide +kernel, by decide +kernel⟩, List.mem_of_getElem? (i := 971) (by decide +kernel), List.mem_of_getElem? (i := 1428) (by decide +kernel), List.mem_of_getElem? (i := 1429) (by decide +kernel)⟩
theorem lw_p91 : lw_okq (⟨"ButterflyCodeModel", "seeks", "()Z"⟩, 54) := ⟨⟨by decide +kernel, by decide +kernel⟩, List.mem_of_getElem? (i := 971) (by decide +kernel), List.mem_of_getElem? (i := 1436) (by decide +kernel), List.mem_of_getElem? (i := 1437) (by decide +kernel)⟩
theorem lw_p92 : lw_okq (⟨"ButterflyCodeModel", "begins", "(JII)V"⟩, 54) := ⟨⟨by decide +kernel, by decide +kernel⟩, List.mem_of_getElem? (i := 971) (by decide +kernel), List.mem_of_getElem? (i := 1440) (by decide +kernel), List.mem_of_getElem? (i := 1441) (by decide +kernel)⟩
theorem lw_p93 : lw_okq (⟨"ButterflyCodeModel", "bestBegun", "()I"⟩, 54) := ⟨⟨by decide +kernel, by decide +kernel⟩, List.mem_of_getElem? (i := 971) (by decide +kernel), List.mem_of_getElem? (i := 1444) (by decide +kernel), List.mem_of_getElem? (i := 1445) (by decide +kernel)⟩
theorem lw_p94 : lw_okq (⟨"ButterflyCodeModel", "isAhead", "(II)Z"⟩, 54) := ⟨⟨by decide +kernel, by decide +kernel⟩, List.mem_of_getElem? (i := 971) (by decide +kernel), List.mem_of_getElem? (i := 1448) (by decide +kernel), List.mem_of_getElem? (i := 1449) (by decide +kernel)⟩
theorem lw_p95 : lw_okq (⟨"ButterflyCodeModel", "goesOn", "(I)V"⟩, 54) := ⟨⟨by decide +kernel, by decide +kernel⟩, List.mem_of_getElem? (i := 971) (by decide +kernel), List.mem_of_getElem? (i := 1452) (by decide +kernel), List.mem_of_getElem? (i := 1453) (by decide +kernel)⟩
def lw_privs_6 : List (MethodName × Nat) := [(⟨"ButterflyCodeModel", "firstThatHolds", "()I"⟩, 54), (⟨"ButterflyCodeModel", "holds", "(J)Z"⟩, 54), (⟨"ButterflyCodeModel", "messageOf", "(J)J"⟩, 54), (⟨"ButterflyCodeModel", "works", "(IZ)V"⟩, 54), (⟨"ButterflyCodeModel", "isGoneTo", "(IZII)Z"⟩, 54), (⟨"ButterflyCodeModel", "isCut", "(III)Z"⟩, 54), (⟨"ButterflyCodeModel", "isAll", "(IIZ)Z"⟩, 54), (⟨"ButterflyCodeModel", "isSure", "(II)Z"⟩, 54), (⟨"ButterflyCodeModel", "pathsAhead", "(II)I"⟩, 54), (⟨"ButterflyCodeModel", "leastSure", "(J)I"⟩, 54), (⟨"ButterflyCodeModel", "readsTurned", "(I)V"⟩, 54), (⟨"ButterflyCodeModel", "seeks", "()Z"⟩, 54), (⟨"ButterflyCodeModel", "begins", "(JII)V"⟩, 54), (⟨"ButterflyCodeModel", "bestBegun", "()I"⟩, 54), (⟨"ButterflyCodeModel", "isAhead", "(II)Z"⟩, 54), (⟨"ButterflyCodeModel", "goesOn", "(I)V"⟩, 54)]
theorem lw_r6 : ∀ q ∈ lw_privs_6, lw_okq q := List.forall_mem_cons.mpr ⟨lw_p80, List.forall_mem_cons.mpr ⟨lw_p81, List.forall_mem_cons.mpr ⟨lw_p82, List.forall_mem_cons.mpr ⟨lw_p83, List.forall_mem_cons.mpr ⟨lw_p84, List.forall_mem_cons.mpr ⟨lw_p85, List.forall_mem_cons.mpr ⟨lw_p86, List.forall_mem_cons.mpr ⟨lw_p87, List.forall_mem_cons.mpr ⟨lw_p88, List.forall_mem_cons.mpr ⟨lw_p89, List.forall_mem_cons.mpr ⟨lw_p90, List.forall_mem_cons.mpr ⟨lw_p91, List.forall_mem_cons.mpr ⟨lw_p92, List.forall_mem_cons.mpr ⟨lw_p93, List.forall_mem_cons.mpr ⟨lw_p94, List.forall_mem_cons.mpr ⟨lw_p95, fun _ h => absurd h List.not_mem_nil⟩⟩⟩⟩⟩⟩⟩⟩⟩⟩⟩⟩⟩⟩⟩⟩
theorem lw_p96 : lw_okq (⟨"ButterflyCodeModel", "goesBack", "(I)V"⟩, 54) := ⟨⟨by decide +kernel, by decide +kernel⟩, List.mem_of_getElem? (i := 971) (by decide +kernel), List.mem_of_getElem? (i := 1481) (by decide +kernel), List.mem_of_getElem? (i := 1482) (by decide +kernel)⟩
theorem lw_p97 : lw_okq (⟨"ButterflyCodeModel", "silent", "()I"⟩, 54) := ⟨⟨by decide +kernel, by decide +kernel⟩, List.mem_of_getElem? (i := 971) (by decide +kernel), List.mem_of_getElem? (i := 1497) (by decide +kernel), List.mem_of_getElem? (i := 1498) (by decide +kernel)⟩
def lw_privs_7 : List (MethodName × Nat) := [(⟨"ButterflyCodeModel", "goesBack", "(I)V"⟩, 54), (⟨"ButterflyCodeModel", "silent", "()I"⟩, 54)]
theorem lw_r7 : ∀ q ∈ lw_privs_7, lw_okq q := List.forall_mem_cons.mpr ⟨lw_p96, List.forall_mem_cons.mpr ⟨lw_p97, fun _ h => absurd h List.not_mem_nil⟩⟩
def lw_privs : List (MethodName × Nat) := lw_privs_1 ++ (lw_privs_2 ++ (lw_privs_3 ++ (lw_privs_4 ++ (lw_privs_5 ++ (lw_privs_6 ++ (lw_privs_7))))))
def lw_tbl : List Cond := k2_sels lw_privs ++ tables_1
theorem lw_privs_ok : ∀ q ∈ lw_privs, lw_okq q := by
  show ∀ q ∈ lw_privs_1 ++ (lw_privs_2 ++ (lw_privs_3 ++ (lw_privs_4 ++ (lw_privs_5 ++ (lw_privs_6 ++ (lw_privs_7)))))), lw_okq q
  exact List.forall_mem_append.mpr ⟨lw_r1, List.forall_mem_append.mpr ⟨lw_r2, List.forall_mem_append.mpr ⟨lw_r3, List.forall_mem_append.mpr ⟨lw_r4, List.forall_mem_append.mpr ⟨lw_r5, List.forall_mem_append.mpr ⟨lw_r6, lw_r7⟩⟩⟩⟩⟩⟩
def RX0 : String := "ButterflyCode$AllWords"
def TX0 : u_T := fun k => match k with
  | 0 => ("ButterflyCode$AllWords", "message", "I", false)
  | 1 => ("ButterflyCode$AllWords", "leastDistance", "I", false)
  | 2 => ("ButterflyCode$AllWords", "basis", "[J", true)
  | _ => ("ButterflyCode$AllWords", "planes", "[J", true)
def tyX0 : Nat → FieldType := fun k => match k with
  | 0 => .int
  | 1 => .int
  | 2 => .array .long
  | _ => .array .long
abbrev wsX00 : List Cond := u_ws RX0 TX0 4
theorem nmX0 : ∀ a, a < 4 → ∀ b, b < 4 → a ≠ b → (TX0 a).2.1 ≠ (TX0 b).2.1 := by decide +kernel
theorem tyX0_ok : ∀ k, k < 4 → parseFieldDescriptor (TX0 k).2.2.1 = some (tyX0 k) := by decide +kernel
def RX1 : String := "ButterflyCode$CodeText"
def TX1 : u_T := fun k => match k with
  | 0 => ("ButterflyCode$CodeText", "told", "LButterflyCode$State;", true)
  | 1 => ("ButterflyCode$CodeText", "badness", "[J", true)
  | 2 => ("ButterflyCode$CodeText", "bytes", "[B", false)
  | 3 => ("ButterflyCode$CodeText", "length", "I", false)
  | 4 => ("ButterflyCode$CodeText", "place", "I", false)
  | 5 => ("ButterflyCode$CodeText", "fault", "I", false)
  | _ => ("ButterflyCode$CodeText", "wordsTold", "I", false)
def tyX1 : Nat → FieldType := fun k => match k with
  | 0 => .object "ButterflyCode$State"
  | 1 => .array .long
  | 2 => .array .byte
  | 3 => .int
  | 4 => .int
  | 5 => .int
  | _ => .int
abbrev wsX10 : List Cond := u_ws RX1 TX1 7
theorem nmX1 : ∀ a, a < 7 → ∀ b, b < 7 → a ≠ b → (TX1 a).2.1 ≠ (TX1 b).2.1 := by decide +kernel
theorem tyX1_ok : ∀ k, k < 7 → parseFieldDescriptor (TX1 k).2.2.1 = some (tyX1 k) := by decide +kernel
def RX2 : String := "ButterflyCode$Flips"
def TX2 : u_T := fun k => match k with
  | 0 => ("ButterflyCode$Flips", "tried", "I", false)
  | 1 => ("ButterflyCode$Flips", "channel", "I", false)
  | 2 => ("ButterflyCode$Flips", "metric", "I", false)
  | 3 => ("ButterflyCode$Flips", "holds", "Z", false)
  | _ => ("ButterflyCode$Flips", "sureness", "[I", true)
def tyX2 : Nat → FieldType := fun k => match k with
  | 0 => .int
  | 1 => .int
  | 2 => .int
  | 3 => .boolean
  | _ => .array .int
abbrev wsX20 : List Cond := u_ws RX2 TX2 5
theorem nmX2 : ∀ a, a < 5 → ∀ b, b < 5 → a ≠ b → (TX2 a).2.1 ≠ (TX2 b).2.1 := by decide +kernel
theorem tyX2_ok : ∀ k, k < 5 → parseFieldDescriptor (TX2 k).2.2.1 = some (tyX2 k) := by decide +kernel
def RX3 : String := "ButterflyCode$Paths"
def TX3 : u_T := fun k => match k with
  | 0 => ("ButterflyCode$Paths", "count", "I", false)
  | 1 => ("ButterflyCode$Paths", "bits", "[J", true)
  | 2 => ("ButterflyCode$Paths", "metrics", "[I", true)
  | _ => ("ButterflyCode$Paths", "rows", "[I", true)
def tyX3 : Nat → FieldType := fun k => match k with
  | 0 => .int
  | 1 => .array .long
  | 2 => .array .int
  | _ => .array .int
abbrev wsX30 : List Cond := u_ws RX3 TX3 4
theorem nmX3 : ∀ a, a < 4 → ∀ b, b < 4 → a ≠ b → (TX3 a).2.1 ≠ (TX3 b).2.1 := by decide +kernel
theorem tyX3_ok : ∀ k, k < 4 → parseFieldDescriptor (TX3 k).2.2.1 = some (tyX3 k) := by decide +kernel
def RX4 : String := "ButterflyCode$Reader"
def TX4 : u_T := fun k => match k with
  | 0 => ("ButterflyCode$Reader", "paths", "LButterflyCode$Paths;", false)
  | 1 => ("ButterflyCode$Reader", "nextPaths", "LButterflyCode$Paths;", false)
  | 2 => ("ButterflyCode$Reader", "trace", "LButterflyCode$Trace;", true)
  | 3 => ("ButterflyCode$Reader", "sureness", "[I", true)
  | 4 => ("ButterflyCode$Reader", "leftWork", "I", false)
  | 5 => ("ButterflyCode$Reader", "rightWork", "I", false)
  | 6 => ("ButterflyCode$Reader", "decided", "I", false)
  | 7 => ("ButterflyCode$Reader", "chosen", "I", false)
  | 8 => ("ButterflyCode$Reader", "holds", "Z", false)
  | 9 => ("ButterflyCode$Reader", "sums", "[I", true)
  | 10 => ("ButterflyCode$Reader", "splitMetrics", "[I", true)
  | 11 => ("ButterflyCode$Reader", "order", "[I", true)
  | 12 => ("ButterflyCode$Reader", "code", "LButterflyCode$State;", false)
  | 13 => ("ButterflyCode$Reader", "list", "I", false)
  | 14 => ("ButterflyCode$Reader", "cut", "Z", false)
  | _ => ("ButterflyCode$Reader", "flip", "I", false)
def tyX4 : Nat → FieldType := fun k => match k with
  | 0 => .object "ButterflyCode$Paths"
  | 1 => .object "ButterflyCode$Paths"
  | 2 => .object "ButterflyCode$Trace"
  | 3 => .array .int
  | 4 => .int
  | 5 => .int
  | 6 => .int
  | 7 => .int
  | 8 => .boolean
  | 9 => .array .int
  | 10 => .array .int
  | 11 => .array .int
  | 12 => .object "ButterflyCode$State"
  | 13 => .int
  | 14 => .boolean
  | _ => .int
abbrev wsX40 : List Cond := u_ws RX4 TX4 16
theorem nmX4 : ∀ a, a < 16 → ∀ b, b < 16 → a ≠ b → (TX4 a).2.1 ≠ (TX4 b).2.1 := by decide +kernel
theorem tyX4_ok : ∀ k, k < 16 → parseFieldDescriptor (TX4 k).2.2.1 = some (tyX4 k) := by decide +kernel
def RX5 : String := "ButterflyCode$Seeker"
def TX5 : u_T := fun k => match k with
  | 0 => ("ButterflyCode$Seeker", "found", "Z", false)
  | 1 => ("ButterflyCode$Seeker", "metric", "I", false)
  | 2 => ("ButterflyCode$Seeker", "channels", "J", false)
  | 3 => ("ButterflyCode$Seeker", "wentOn", "I", false)
  | 4 => ("ButterflyCode$Seeker", "keys", "[I", true)
  | 5 => ("ButterflyCode$Seeker", "beginnings", "[J", true)
  | 6 => ("ButterflyCode$Seeker", "held", "I", false)
  | _ => ("ButterflyCode$Seeker", "sums", "[I", true)
def tyX5 : Nat → FieldType := fun k => match k with
  | 0 => .boolean
  | 1 => .int
  | 2 => .long
  | 3 => .int
  | 4 => .array .int
  | 5 => .array .long
  | 6 => .int
  | _ => .array .int
abbrev wsX50 : List Cond := u_ws RX5 TX5 8
theorem nmX5 : ∀ a, a < 8 → ∀ b, b < 8 → a ≠ b → (TX5 a).2.1 ≠ (TX5 b).2.1 := by decide +kernel
theorem tyX5_ok : ∀ k, k < 8 → parseFieldDescriptor (TX5 k).2.2.1 = some (tyX5 k) := by decide +kernel
def RX6 : String := "ButterflyCode$State"
def TX6 : u_T := fun k => match k with
  | 0 => ("ButterflyCode$State", "m", "I", false)
  | 1 => ("ButterflyCode$State", "n", "I", false)
  | 2 => ("ButterflyCode$State", "k", "I", false)
  | 3 => ("ButterflyCode$State", "c", "I", false)
  | 4 => ("ButterflyCode$State", "poly", "I", false)
  | 5 => ("ButterflyCode$State", "erase", "I", false)
  | 6 => ("ButterflyCode$State", "list", "I", false)
  | 7 => ("ButterflyCode$State", "keptSet", "J", false)
  | _ => ("ButterflyCode$State", "sums", "[I", true)
def tyX6 : Nat → FieldType := fun k => match k with
  | 0 => .int
  | 1 => .int
  | 2 => .int
  | 3 => .int
  | 4 => .int
  | 5 => .int
  | 6 => .int
  | 7 => .long
  | _ => .array .int
abbrev wsX60 : List Cond := u_ws RX6 TX6 9
theorem nmX6 : ∀ a, a < 9 → ∀ b, b < 9 → a ≠ b → (TX6 a).2.1 ≠ (TX6 b).2.1 := by decide +kernel
theorem tyX6_ok : ∀ k, k < 9 → parseFieldDescriptor (TX6 k).2.2.1 = some (tyX6 k) := by decide +kernel
def RX7 : String := "ButterflyCode$Tape"
def TX7 : u_T := fun k => match k with
  | 0 => ("ButterflyCode$Tape", "bytes", "[B", true)
  | _ => ("ButterflyCode$Tape", "length", "I", false)
def tyX7 : Nat → FieldType := fun k => match k with
  | 0 => .array .byte
  | _ => .int
abbrev wsX70 : List Cond := u_ws RX7 TX7 2
theorem nmX7 : ∀ a, a < 2 → ∀ b, b < 2 → a ≠ b → (TX7 a).2.1 ≠ (TX7 b).2.1 := by decide +kernel
theorem tyX7_ok : ∀ k, k < 2 → parseFieldDescriptor (TX7 k).2.2.1 = some (tyX7 k) := by decide +kernel
def RX8 : String := "ButterflyCode$Trace"
def TX8 : u_T := fun k => match k with
  | 0 => ("ButterflyCode$Trace", "counts", "[I", true)
  | 1 => ("ButterflyCode$Trace", "metrics", "[I", true)
  | _ => ("ButterflyCode$Trace", "steps", "[I", true)
def tyX8 : Nat → FieldType := fun k => match k with
  | 0 => .array .int
  | 1 => .array .int
  | _ => .array .int
abbrev wsX80 : List Cond := u_ws RX8 TX8 3
theorem nmX8 : ∀ a, a < 3 → ∀ b, b < 3 → a ≠ b → (TX8 a).2.1 ≠ (TX8 b).2.1 := by decide +kernel
theorem tyX8_ok : ∀ k, k < 3 → parseFieldDescriptor (TX8 k).2.2.1 = some (tyX8 k) := by decide +kernel
def RX9 : String := "ButterflyCode"
def TX9 : u_T := fun k => match k with
  | 0 => ("ButterflyCode", "now", "LButterflyCode$State;", true)
  | 1 => ("ButterflyCode", "past", "[LButterflyCode$State;", true)
  | 2 => ("ButterflyCode", "pastEnd", "I", false)
  | 3 => ("ButterflyCode", "pastCount", "I", false)
  | 4 => ("ButterflyCode", "images", "[LButterflyCode$State;", true)
  | 5 => ("ButterflyCode", "imageMade", "[Z", true)
  | 6 => ("ButterflyCode", "tape", "LButterflyCode$Tape;", true)
  | 7 => ("ButterflyCode", "text", "LButterflyCode$CodeText;", true)
  | 8 => ("ButterflyCode", "reader", "LButterflyCode$Reader;", true)
  | 9 => ("ButterflyCode", "flips", "LButterflyCode$Flips;", true)
  | 10 => ("ButterflyCode", "seeker", "LButterflyCode$Seeker;", true)
  | 11 => ("ButterflyCode", "words", "LButterflyCode$AllWords;", true)
  | 12 => ("ButterflyCode", "frameSums", "[I", true)
  | _ => ("ButterflyCode", "drawn", "I", false)
def tyX9 : Nat → FieldType := fun k => match k with
  | 0 => .object "ButterflyCode$State"
  | 1 => .array (.object "ButterflyCode$State")
  | 2 => .int
  | 3 => .int
  | 4 => .array (.object "ButterflyCode$State")
  | 5 => .array .boolean
  | 6 => .object "ButterflyCode$Tape"
  | 7 => .object "ButterflyCode$CodeText"
  | 8 => .object "ButterflyCode$Reader"
  | 9 => .object "ButterflyCode$Flips"
  | 10 => .object "ButterflyCode$Seeker"
  | 11 => .object "ButterflyCode$AllWords"
  | 12 => .array .int
  | _ => .int
abbrev wsX90 : List Cond := u_ws RX9 TX9 14
theorem nmX9 : ∀ a, a < 14 → ∀ b, b < 14 → a ≠ b → (TX9 a).2.1 ≠ (TX9 b).2.1 := by decide +kernel
theorem tyX9_ok : ∀ k, k < 14 → parseFieldDescriptor (TX9 k).2.2.1 = some (tyX9 k) := by decide +kernel
def RX10 : String := "ButterflyCodeModel"
def TX10 : u_T := fun k => match k with
  | 0 => ("ButterflyCodeModel", "tape", "[B", true)
  | 1 => ("ButterflyCodeModel", "taped", "I", false)
  | 2 => ("ButterflyCodeModel", "at", "I", false)
  | 3 => ("ButterflyCodeModel", "wrong", "I", false)
  | 4 => ("ButterflyCodeModel", "words", "[B", true)
  | 5 => ("ButterflyCodeModel", "isRead", "[Z", true)
  | 6 => ("ButterflyCodeModel", "readM", "I", false)
  | 7 => ("ButterflyCodeModel", "readKeep", "I", false)
  | 8 => ("ButterflyCodeModel", "readInfo", "J", false)
  | 9 => ("ButterflyCodeModel", "readC", "I", false)
  | 10 => ("ButterflyCodeModel", "readPoly", "I", false)
  | 11 => ("ButterflyCodeModel", "readE", "I", false)
  | 12 => ("ButterflyCodeModel", "readL", "I", false)
  | 13 => ("ButterflyCodeModel", "number", "I", false)
  | 14 => ("ButterflyCodeModel", "n", "I", false)
  | 15 => ("ButterflyCodeModel", "m", "I", false)
  | 16 => ("ButterflyCodeModel", "k", "I", false)
  | 17 => ("ButterflyCodeModel", "c", "I", false)
  | 18 => ("ButterflyCodeModel", "poly", "I", false)
  | 19 => ("ButterflyCodeModel", "erase", "I", false)
  | 20 => ("ButterflyCodeModel", "list", "I", false)
  | 21 => ("ButterflyCodeModel", "kept", "J", false)
  | 22 => ("ButterflyCodeModel", "sums", "[I", true)
  | 23 => ("ButterflyCodeModel", "x", "I", false)
  | 24 => ("ButterflyCodeModel", "here", "[I", true)
  | 25 => ("ButterflyCodeModel", "paths", "I", false)
  | 26 => ("ButterflyCodeModel", "bits", "[J", true)
  | 27 => ("ButterflyCodeModel", "metric", "[I", true)
  | 28 => ("ButterflyCodeModel", "newBits", "[J", true)
  | 29 => ("ButterflyCodeModel", "newMetric", "[I", true)
  | 30 => ("ButterflyCodeModel", "newFrom", "[I", true)
  | 31 => ("ButterflyCodeModel", "pathMany", "[I", true)
  | 32 => ("ButterflyCodeModel", "pathMetric", "[I", true)
  | 33 => ("ButterflyCodeModel", "pathBit", "[I", true)
  | 34 => ("ButterflyCodeModel", "pathFrom", "[I", true)
  | 35 => ("ButterflyCodeModel", "decided", "[I", true)
  | 36 => ("ButterflyCodeModel", "leftWork", "I", false)
  | 37 => ("ButterflyCodeModel", "rightWork", "I", false)
  | 38 => ("ButterflyCodeModel", "ones", "I", false)
  | 39 => ("ButterflyCodeModel", "firstDecided", "[I", true)
  | 40 => ("ButterflyCodeModel", "turnedBits", "J", false)
  | 41 => ("ButterflyCodeModel", "turnedMetric", "I", false)
  | 42 => ("ButterflyCodeModel", "begun", "[J", true)
  | 43 => ("ButterflyCodeModel", "long1", "[I", true)
  | 44 => ("ButterflyCodeModel", "begunMetric", "[I", true)
  | 45 => ("ButterflyCodeModel", "begunMany", "I", false)
  | 46 => ("ButterflyCodeModel", "wentOn", "I", false)
  | 47 => ("ButterflyCodeModel", "soughtBits", "J", false)
  | 48 => ("ButterflyCodeModel", "soughtMetric", "I", false)
  | 49 => ("ButterflyCodeModel", "kept1", "[I", true)
  | 50 => ("ButterflyCodeModel", "held", "[I", true)
  | 51 => ("ButterflyCodeModel", "heldKept", "[J", true)
  | 52 => ("ButterflyCodeModel", "hasImage", "[Z", true)
  | _ => ("ButterflyCodeModel", "undone", "I", false)
def tyX10 : Nat → FieldType := fun k => match k with
  | 0 => .array .byte
  | 1 => .int
  | 2 => .int
  | 3 => .int
  | 4 => .array .byte
  | 5 => .array .boolean
  | 6 => .int
  | 7 => .int
  | 8 => .long
  | 9 => .int
  | 10 => .int
  | 11 => .int
  | 12 => .int
  | 13 => .int
  | 14 => .int
  | 15 => .int
  | 16 => .int
  | 17 => .int
  | 18 => .int
  | 19 => .int
  | 20 => .int
  | 21 => .long
  | 22 => .array .int
  | 23 => .int
  | 24 => .array .int
  | 25 => .int
  | 26 => .array .long
  | 27 => .array .int
  | 28 => .array .long
  | 29 => .array .int
  | 30 => .array .int
  | 31 => .array .int
  | 32 => .array .int
  | 33 => .array .int
  | 34 => .array .int
  | 35 => .array .int
  | 36 => .int
  | 37 => .int
  | 38 => .int
  | 39 => .array .int
  | 40 => .long
  | 41 => .int
  | 42 => .array .long
  | 43 => .array .int
  | 44 => .array .int
  | 45 => .int
  | 46 => .int
  | 47 => .long
  | 48 => .int
  | 49 => .array .int
  | 50 => .array .int
  | 51 => .array .long
  | 52 => .array .boolean
  | _ => .int
abbrev wsX100 : List Cond := u_ws RX10 TX10 54
theorem nmX10 : ∀ a, a < 54 → ∀ b, b < 54 → a ≠ b → (TX10 a).2.1 ≠ (TX10 b).2.1 := by decide +kernel
theorem tyX10_ok : ∀ k, k < 54 → parseFieldDescriptor (TX10 k).2.2.1 = some (tyX10 k) := by decide +kernel
abbrev vwCl : List vw_C := [(RX0, TX0, 4), (RX1, TX1, 7), (RX2, TX2, 5), (RX3, TX3, 4), (RX4, TX4, 16), (RX5, TX5, 8), (RX6, TX6, 9), (RX7, TX7, 2), (RX8, TX8, 3), (RX9, TX9, 14), (RX10, TX10, 54)]
/-- kinds of the fields of each class: 0 int, 1 long, 2 reference, 3 boolean -/
def pm_KD : List (List Nat) := [[0, 0, 2, 2], [2, 2, 2, 0, 0, 0, 0], [0, 0, 0, 3, 2], [0, 2, 2, 2], [2, 2, 2, 2, 0, 0, 0, 0, 3, 2, 2, 2, 2, 0, 3, 0], [3, 0, 1, 0, 2, 2, 0, 2], [0, 0, 0, 0, 0, 0, 0, 1, 2], [2, 0], [2, 2, 2], [2, 2, 0, 0, 2, 2, 2, 2, 2, 2, 2, 2, 2, 0], [2, 0, 0, 0, 2, 2, 0, 0, 1, 0, 0, 0, 0, 0, 0, 0, 0, 0, 0, 0, 0, 1, 2, 0, 2, 0, 2, 2, 2, 2, 2, 2, 2, 2, 2, 2, 0, 0, 0, 2, 1, 0, 2, 2, 2, 0, 0, 1, 0, 2, 2, 2, 2, 0]]
def pm_JL : List Nat := [4, 4, 4, 5, 5, 4]
def pm_JB : List (List Int32) := [[115, 105, 122, 101], [107, 101, 101, 112], [105, 110, 102, 111], [99, 104, 101, 99, 107], [101, 114, 97, 115, 101], [108, 105, 115, 116]]
def pm_LW : List Int64 := [6148914691236517205, 3689348814741910323, 1085102592571150095, 71777214294589695, 281470681808895, 4294967295]
