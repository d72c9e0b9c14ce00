section
-- ===== PART A: goes FIRST, ahead of the names: the tables' words, and 'selects' of the private methods out of them =====
/-- a private method of a class that the tables say can be made, by its rows of tables_1 -/
def lw_okq (q : MethodName × Nat) : Prop := (q.1.cls ≠ "java/lang/invoke/MethodHandle" ∧ q.1.cls ≠ "java/lang/invoke/VarHandle") ∧ Cond.instantiable q.1.cls q.2 ∈ tables_1 ∧ Cond.privateMethod q.1 ∈ tables_1 ∧ Cond.instanceMethod q.1 ∈ tables_1
theorem lw_p0 : lw_okq (⟨"ButterflyCode$CodeText", "setDefaults", "()V"⟩, 7) := ⟨⟨by decide +kernel, by decide +kernel⟩, List.mem_of_getElem? (i := 112) (by decide +kernel), List.mem_of_getElem? (i := 406) (by decide +kernel), List.mem_of_getElem? (i := 407) (by decide +kernel)⟩
theorem lw_p1 : lw_okq (⟨"ButterflyCode$CodeText", "parseSize", "()V"⟩, 7) := ⟨⟨by decide +kernel, by decide +kernel⟩, List.mem_of_getElem? (i := 112) (by decide +kernel), List.mem_of_getElem? (i := 410) (by decide +kernel), List.mem_of_getElem? (i := 411) (by decide +kernel)⟩
theorem lw_p2 : lw_okq (⟨"ButterflyCode$CodeText", "skipBlanks", "()V"⟩, 7) := ⟨⟨by decide +kernel, by decide +kernel⟩, List.mem_of_getElem? (i := 112) (by decide +kernel), List.mem_of_getElem? (i := 414) (by decide +kernel), List.mem_of_getElem? (i := 415) (by decide +kernel)⟩
theorem lw_p3 : lw_okq (⟨"ButterflyCode$CodeText", "skipLetters", "()V"⟩, 7) := ⟨⟨by decide +kernel, by decide +kernel⟩, List.mem_of_getElem? (i := 112) (by decide +kernel), List.mem_of_getElem? (i := 418) (by decide +kernel), List.mem_of_getElem? (i := 419) (by decide +kernel)⟩
theorem lw_p4 : lw_okq (⟨"ButterflyCode$CodeText", "isWord", "(ILjava/lang/String;)Z"⟩, 7) := ⟨⟨by decide +kernel, by decide +kernel⟩, List.mem_of_getElem? (i := 112) (by decide +kernel), List.mem_of_getElem? (i := 423) (by decide +kernel), List.mem_of_getElem? (i := 424) (by decide +kernel)⟩
theorem lw_p5 : lw_okq (⟨"ButterflyCode$CodeText", "blame", "(II)V"⟩, 7) := ⟨⟨by decide +kernel, by decide +kernel⟩, List.mem_of_getElem? (i := 112) (by decide +kernel), List.mem_of_getElem? (i := 475) (by decide +kernel), List.mem_of_getElem? (i := 476) (by decide +kernel)⟩
theorem lw_p6 : lw_okq (⟨"ButterflyCode$CodeText", "number", "(II)I"⟩, 7) := ⟨⟨by decide +kernel, by decide +kernel⟩, List.mem_of_getElem? (i := 112) (by decide +kernel), List.mem_of_getElem? (i := 479) (by decide +kernel), List.mem_of_getElem? (i := 480) (by decide +kernel)⟩
theorem lw_p7 : lw_okq (⟨"ButterflyCode$CodeText", "atDigit", "()Z"⟩, 7) := ⟨⟨by decide +kernel, by decide +kernel⟩, List.mem_of_getElem? (i := 112) (by decide +kernel), List.mem_of_getElem? (i := 483) (by decide +kernel), List.mem_of_getElem? (i := 484) (by decide +kernel)⟩
theorem lw_p8 : lw_okq (⟨"ButterflyCode$CodeText", "goesOn", "()Z"⟩, 7) := ⟨⟨by decide +kernel, by decide +kernel⟩, List.mem_of_getElem? (i := 112) (by decide +kernel), List.mem_of_getElem? (i := 488) (by decide +kernel), List.mem_of_getElem? (i := 489) (by decide +kernel)⟩
theorem lw_p9 : lw_okq (⟨"ButterflyCode$CodeText", "parseLine", "()V"⟩, 7) := ⟨⟨by decide +kernel, by decide +kernel⟩, List.mem_of_getElem? (i := 112) (by decide +kernel), List.mem_of_getElem? (i := 492) (by decide +kernel), List.mem_of_getElem? (i := 493) (by decide +kernel)⟩
theorem lw_p10 : lw_okq (⟨"ButterflyCode$CodeText", "whichWord", "(I)I"⟩, 7) := ⟨⟨by decide +kernel, by decide +kernel⟩, List.mem_of_getElem? (i := 112) (by decide +kernel), List.mem_of_getElem? (i := 496) (by decide +kernel), List.mem_of_getElem? (i := 497) (by decide +kernel)⟩
theorem lw_p11 : lw_okq (⟨"ButterflyCode$CodeText", "excludes", "(I)Z"⟩, 7) := ⟨⟨by decide +kernel, by decide +kernel⟩, List.mem_of_getElem? (i := 112) (by decide +kernel), List.mem_of_getElem? (i := 505) (by decide +kernel), List.mem_of_getElem? (i := 506) (by decide +kernel)⟩
theorem lw_p12 : lw_okq (⟨"ButterflyCode$CodeText", "wasTold", "(I)Z"⟩, 7) := ⟨⟨by decide +kernel, by decide +kernel⟩, List.mem_of_getElem? (i := 112) (by decide +kernel), List.mem_of_getElem? (i := 509) (by decide +kernel), List.mem_of_getElem? (i := 510) (by decide +kernel)⟩
theorem lw_p13 : lw_okq (⟨"ButterflyCode$CodeText", "parseNumbers", "(I)V"⟩, 7) := ⟨⟨by decide +kernel, by decide +kernel⟩, List.mem_of_getElem? (i := 112) (by decide +kernel), List.mem_of_getElem? (i := 513) (by decide +kernel), List.mem_of_getElem? (i := 514) (by decide +kernel)⟩
theorem lw_p14 : lw_okq (⟨"ButterflyCode$CodeText", "parseInfo", "()V"⟩, 7) := ⟨⟨by decide +kernel, by decide +kernel⟩, List.mem_of_getElem? (i := 112) (by decide +kernel), List.mem_of_getElem? (i := 517) (by decide +kernel), List.mem_of_getElem? (i := 518) (by decide +kernel)⟩
theorem lw_p15 : lw_okq (⟨"ButterflyCode$CodeText", "finish", "()V"⟩, 7) := ⟨⟨by decide +kernel, by decide +kernel⟩, List.mem_of_getElem? (i := 112) (by decide +kernel), List.mem_of_getElem? (i := 521) (by decide +kernel), List.mem_of_getElem? (i := 522) (by decide +kernel)⟩
def lw_privs_1 : List (MethodName × Nat) := [(⟨"ButterflyCode$CodeText", "setDefaults", "()V"⟩, 7), (⟨"ButterflyCode$CodeText", "parseSize", "()V"⟩, 7), (⟨"ButterflyCode$CodeText", "skipBlanks", "()V"⟩, 7), (⟨"ButterflyCode$CodeText", "skipLetters", "()V"⟩, 7), (⟨"ButterflyCode$CodeText", "isWord", "(ILjava/lang/String;)Z"⟩, 7), (⟨"ButterflyCode$CodeText", "blame", "(II)V"⟩, 7), (⟨"ButterflyCode$CodeText", "number", "(II)I"⟩, 7), (⟨"ButterflyCode$CodeText", "atDigit", "()Z"⟩, 7), (⟨"ButterflyCode$CodeText", "goesOn", "()Z"⟩, 7), (⟨"ButterflyCode$CodeText", "parseLine", "()V"⟩, 7), (⟨"ButterflyCode$CodeText", "whichWord", "(I)I"⟩, 7), (⟨"ButterflyCode$CodeText", "excludes", "(I)Z"⟩, 7), (⟨"ButterflyCode$CodeText", "wasTold", "(I)Z"⟩, 7), (⟨"ButterflyCode$CodeText", "parseNumbers", "(I)V"⟩, 7), (⟨"ButterflyCode$CodeText", "parseInfo", "()V"⟩, 7), (⟨"ButterflyCode$CodeText", "finish", "()V"⟩, 7)]
theorem lw_r1 : ∀ q ∈ lw_privs_1, lw_okq q := List.forall_mem_cons.mpr ⟨lw_p0, List.forall_mem_cons.mpr ⟨lw_p1, List.forall_mem_cons.mpr ⟨lw_p2, List.forall_mem_cons.mpr ⟨lw_p3, List.forall_mem_cons.mpr ⟨lw_p4, List.forall_mem_cons.mpr ⟨lw_p5, List.forall_mem_cons.mpr ⟨lw_p6, List.forall_mem_cons.mpr ⟨lw_p7, List.forall_mem_cons.mpr ⟨lw_p8, List.forall_mem_cons.mpr ⟨lw_p9, List.forall_mem_cons.mpr ⟨lw_p10, List.forall_mem_cons.mpr ⟨lw_p11, List.forall_mem_cons.mpr ⟨lw_p12, List.forall_mem_cons.mpr ⟨lw_p13, List.forall_mem_cons.mpr ⟨lw_p14, List.forall_mem_cons.mpr ⟨lw_p15, fun _ h => absurd h List.not_mem_nil⟩⟩⟩⟩⟩⟩⟩⟩⟩⟩⟩⟩⟩⟩⟩⟩
theorem lw_p16 : lw_okq (⟨"ButterflyCode$CodeText", "keepBest", "(I)V"⟩, 7) := ⟨⟨by decide +kernel, by decide +kernel⟩, List.mem_of_getElem? (i := 112) (by decide +kernel), List.mem_of_getElem? (i := 531) (by decide +kernel), List.mem_of_getElem? (i := 532) (by decide +kernel)⟩
theorem lw_p17 : lw_okq (⟨"ButterflyCode$CodeText", "bestLeft", "()I"⟩, 7) := ⟨⟨by decide +kernel, by decide +kernel⟩, List.mem_of_getElem? (i := 112) (by decide +kernel), List.mem_of_getElem? (i := 542) (by decide +kernel), List.mem_of_getElem? (i := 543) (by decide +kernel)⟩
theorem lw_p18 : lw_okq (⟨"ButterflyCode", "remember", "()V"⟩, 14) := ⟨⟨by decide +kernel, by decide +kernel⟩, List.mem_of_getElem? (i := 21) (by decide +kernel), List.mem_of_getElem? (i := 553) (by decide +kernel), List.mem_of_getElem? (i := 554) (by decide +kernel)⟩
theorem lw_p19 : lw_okq (⟨"ButterflyCode", "leastRow", "()I"⟩, 14) := ⟨⟨by decide +kernel, by decide +kernel⟩, List.mem_of_getElem? (i := 21) (by decide +kernel), List.mem_of_getElem? (i := 635) (by decide +kernel), List.mem_of_getElem? (i := 636) (by decide +kernel)⟩
theorem lw_p20 : lw_okq (⟨"ButterflyCode", "rowWeight", "(I)I"⟩, 14) := ⟨⟨by decide +kernel, by decide +kernel⟩, List.mem_of_getElem? (i := 21) (by decide +kernel), List.mem_of_getElem? (i := 639) (by decide +kernel), List.mem_of_getElem? (i := 640) (by decide +kernel)⟩
theorem lw_p21 : lw_okq (⟨"ButterflyCode", "transmit", "(JII[I)V"⟩, 14) := ⟨⟨by decide +kernel, by decide +kernel⟩, List.mem_of_getElem? (i := 21) (by decide +kernel), List.mem_of_getElem? (i := 661) (by decide +kernel), List.mem_of_getElem? (i := 662) (by decide +kernel)⟩
theorem lw_p22 : lw_okq (⟨"ButterflyCode", "draw", "(I)I"⟩, 14) := ⟨⟨by decide +kernel, by decide +kernel⟩, List.mem_of_getElem? (i := 21) (by decide +kernel), List.mem_of_getElem? (i := 665) (by decide +kernel), List.mem_of_getElem? (i := 666) (by decide +kernel)⟩
theorem lw_p23 : lw_okq (⟨"ButterflyCode", "readHeard", "()V"⟩, 14) := ⟨⟨by decide +kernel, by decide +kernel⟩, List.mem_of_getElem? (i := 21) (by decide +kernel), List.mem_of_getElem? (i := 699) (by decide +kernel), List.mem_of_getElem? (i := 700) (by decide +kernel)⟩
theorem lw_p24 : lw_okq (⟨"ButterflyCode$Reader", "readNodes", "(I)I"⟩, 16) := ⟨⟨by decide +kernel, by decide +kernel⟩, List.mem_of_getElem? (i := 144) (by decide +kernel), List.mem_of_getElem? (i := 715) (by decide +kernel), List.mem_of_getElem? (i := 716) (by decide +kernel)⟩
theorem lw_p25 : lw_okq (⟨"ButterflyCode$Reader", "reckonRight", "(II)V"⟩, 16) := ⟨⟨by decide +kernel, by decide +kernel⟩, List.mem_of_getElem? (i := 144) (by decide +kernel), List.mem_of_getElem? (i := 723) (by decide +kernel), List.mem_of_getElem? (i := 724) (by decide +kernel)⟩
theorem lw_p26 : lw_okq (⟨"ButterflyCode$Reader", "pathStart", "(II)I"⟩, 16) := ⟨⟨by decide +kernel, by decide +kernel⟩, List.mem_of_getElem? (i := 144) (by decide +kernel), List.mem_of_getElem? (i := 727) (by decide +kernel), List.mem_of_getElem? (i := 728) (by decide +kernel)⟩
theorem lw_p27 : lw_okq (⟨"ButterflyCode$Reader", "isCutShort", "(II)Z"⟩, 16) := ⟨⟨by decide +kernel, by decide +kernel⟩, List.mem_of_getElem? (i := 144) (by decide +kernel), List.mem_of_getElem? (i := 736) (by decide +kernel), List.mem_of_getElem? (i := 737) (by decide +kernel)⟩
theorem lw_p28 : lw_okq (⟨"ButterflyCode$Reader", "freezeNode", "(I)V"⟩, 16) := ⟨⟨by decide +kernel, by decide +kernel⟩, List.mem_of_getElem? (i := 144) (by decide +kernel), List.mem_of_getElem? (i := 740) (by decide +kernel), List.mem_of_getElem? (i := 741) (by decide +kernel)⟩
theorem lw_p29 : lw_okq (⟨"ButterflyCode$Reader", "hasZeroSum", "(I)Z"⟩, 16) := ⟨⟨by decide +kernel, by decide +kernel⟩, List.mem_of_getElem? (i := 144) (by decide +kernel), List.mem_of_getElem? (i := 745) (by decide +kernel), List.mem_of_getElem? (i := 746) (by decide +kernel)⟩
theorem lw_p30 : lw_okq (⟨"ButterflyCode$Reader", "takeNode", "(II)V"⟩, 16) := ⟨⟨by decide +kernel, by decide +kernel⟩, List.mem_of_getElem? (i := 144) (by decide +kernel), List.mem_of_getElem? (i := 749) (by decide +kernel), List.mem_of_getElem? (i := 750) (by decide +kernel)⟩
theorem lw_p31 : lw_okq (⟨"ButterflyCode$Reader", "reckonLeft", "(I)V"⟩, 16) := ⟨⟨by decide +kernel, by decide +kernel⟩, List.mem_of_getElem? (i := 144) (by decide +kernel), List.mem_of_getElem? (i := 753) (by decide +kernel), List.mem_of_getElem? (i := 754) (by decide +kernel)⟩
def lw_privs_2 : List (MethodName × Nat) := [(⟨"ButterflyCode$CodeText", "keepBest", "(I)V"⟩, 7), (⟨"ButterflyCode$CodeText", "bestLeft", "()I"⟩, 7), (⟨"ButterflyCode", "remember", "()V"⟩, 14), (⟨"ButterflyCode", "leastRow", "()I"⟩, 14), (⟨"ButterflyCode", "rowWeight", "(I)I"⟩, 14), (⟨"ButterflyCode", "transmit", "(JII[I)V"⟩, 14), (⟨"ButterflyCode", "draw", "(I)I"⟩, 14), (⟨"ButterflyCode", "readHeard", "()V"⟩, 14), (⟨"ButterflyCode$Reader", "readNodes", "(I)I"⟩, 16), (⟨"ButterflyCode$Reader", "reckonRight", "(II)V"⟩, 16), (⟨"ButterflyCode$Reader", "pathStart", "(II)I"⟩, 16), (⟨"ButterflyCode$Reader", "isCutShort", "(II)Z"⟩, 16), (⟨"ButterflyCode$Reader", "freezeNode", "(I)V"⟩, 16), (⟨"ButterflyCode$Reader", "hasZeroSum", "(I)Z"⟩, 16), (⟨"ButterflyCode$Reader", "takeNode", "(II)V"⟩, 16), (⟨"ButterflyCode$Reader", "reckonLeft", "(I)V"⟩, 16)]
theorem lw_r2 : ∀ q ∈ lw_privs_2, lw_okq q := List.forall_mem_cons.mpr ⟨lw_p16, List.forall_mem_cons.mpr ⟨lw_p17, List.forall_mem_cons.mpr ⟨lw_p18, List.forall_mem_cons.mpr ⟨lw_p19, List.forall_mem_cons.mpr ⟨lw_p20, List.forall_mem_cons.mpr ⟨lw_p21, List.forall_mem_cons.mpr ⟨lw_p22, List.forall_mem_cons.mpr ⟨lw_p23, List.forall_mem_cons.mpr ⟨lw_p24, List.forall_mem_cons.mpr ⟨lw_p25, List.forall_mem_cons.mpr ⟨lw_p26, List.forall_mem_cons.mpr ⟨lw_p27, List.forall_mem_cons.mpr ⟨lw_p28, List.forall_mem_cons.mpr ⟨lw_p29, List.forall_mem_cons.mpr ⟨lw_p30, List.forall_mem_cons.mpr ⟨lw_p31, fun _ h => absurd h List.not_mem_nil⟩⟩⟩⟩⟩⟩⟩⟩⟩⟩⟩⟩⟩⟩⟩⟩
theorem lw_p32 : lw_okq (⟨"ButterflyCode$Reader", "decide", "(I)V"⟩, 16) := ⟨⟨by decide +kernel, by decide +kernel⟩, List.mem_of_getElem? (i := 144) (by decide +kernel), List.mem_of_getElem? (i := 763) (by decide +kernel), List.mem_of_getElem? (i := 764) (by decide +kernel)⟩
theorem lw_p33 : lw_okq (⟨"ButterflyCode$Reader", "freeze", "(I)V"⟩, 16) := ⟨⟨by decide +kernel, by decide +kernel⟩, List.mem_of_getElem? (i := 144) (by decide +kernel), List.mem_of_getElem? (i := 769) (by decide +kernel), List.mem_of_getElem? (i := 770) (by decide +kernel)⟩
theorem lw_p34 : lw_okq (⟨"ButterflyCode$Reader", "takeOther", "(I)V"⟩, 16) := ⟨⟨by decide +kernel, by decide +kernel⟩, List.mem_of_getElem? (i := 144) (by decide +kernel), List.mem_of_getElem? (i := 777) (by decide +kernel), List.mem_of_getElem? (i := 778) (by decide +kernel)⟩
theorem lw_p35 : lw_okq (⟨"ButterflyCode$Reader", "split", "(I)V"⟩, 16) := ⟨⟨by decide +kernel, by decide +kernel⟩, List.mem_of_getElem? (i := 144) (by decide +kernel), List.mem_of_getElem? (i := 781) (by decide +kernel), List.mem_of_getElem? (i := 782) (by decide +kernel)⟩
theorem lw_p36 : lw_okq (⟨"ButterflyCode$Reader", "sortIn", "(I)V"⟩, 16) := ⟨⟨by decide +kernel, by decide +kernel⟩, List.mem_of_getElem? (i := 144) (by decide +kernel), List.mem_of_getElem? (i := 785) (by decide +kernel), List.mem_of_getElem? (i := 786) (by decide +kernel)⟩
theorem lw_p37 : lw_okq (⟨"ButterflyCode$Reader", "choose", "()V"⟩, 16) := ⟨⟨by decide +kernel, by decide +kernel⟩, List.mem_of_getElem? (i := 144) (by decide +kernel), List.mem_of_getElem? (i := 797) (by decide +kernel), List.mem_of_getElem? (i := 798) (by decide +kernel)⟩
theorem lw_p38 : lw_okq (⟨"ButterflyCode$Flips", "leastSure", "(J)I"⟩, 5) := ⟨⟨by decide +kernel, by decide +kernel⟩, List.mem_of_getElem? (i := 258) (by decide +kernel), List.mem_of_getElem? (i := 843) (by decide +kernel), List.mem_of_getElem? (i := 844) (by decide +kernel)⟩
theorem lw_p39 : lw_okq (⟨"ButterflyCode$Seeker", "push", "(IIJ)V"⟩, 8) := ⟨⟨by decide +kernel, by decide +kernel⟩, List.mem_of_getElem? (i := 284) (by decide +kernel), List.mem_of_getElem? (i := 857) (by decide +kernel), List.mem_of_getElem? (i := 858) (by decide +kernel)⟩
theorem lw_p40 : lw_okq (⟨"ButterflyCode$Seeker", "move", "(II)V"⟩, 8) := ⟨⟨by decide +kernel, by decide +kernel⟩, List.mem_of_getElem? (i := 284) (by decide +kernel), List.mem_of_getElem? (i := 864) (by decide +kernel), List.mem_of_getElem? (i := 865) (by decide +kernel)⟩
theorem lw_p41 : lw_okq (⟨"ButterflyCode$Seeker", "goOn", "(LButterflyCode$State;)V"⟩, 8) := ⟨⟨by decide +kernel, by decide +kernel⟩, List.mem_of_getElem? (i := 284) (by decide +kernel), List.mem_of_getElem? (i := 868) (by decide +kernel), List.mem_of_getElem? (i := 869) (by decide +kernel)⟩
theorem lw_p42 : lw_okq (⟨"ButterflyCode$Seeker", "dropFirst", "()V"⟩, 8) := ⟨⟨by decide +kernel, by decide +kernel⟩, List.mem_of_getElem? (i := 284) (by decide +kernel), List.mem_of_getElem? (i := 872) (by decide +kernel), List.mem_of_getElem? (i := 873) (by decide +kernel)⟩
theorem lw_p43 : lw_okq (⟨"ButterflyCode$Seeker", "firstChild", "(I)I"⟩, 8) := ⟨⟨by decide +kernel, by decide +kernel⟩, List.mem_of_getElem? (i := 284) (by decide +kernel), List.mem_of_getElem? (i := 876) (by decide +kernel), List.mem_of_getElem? (i := 877) (by decide +kernel)⟩
theorem lw_p44 : lw_okq (⟨"ButterflyCode$Seeker", "grow", "(LButterflyCode$State;IIJ)V"⟩, 8) := ⟨⟨by decide +kernel, by decide +kernel⟩, List.mem_of_getElem? (i := 284) (by decide +kernel), List.mem_of_getElem? (i := 880) (by decide +kernel), List.mem_of_getElem? (i := 881) (by decide +kernel)⟩
theorem lw_p45 : lw_okq (⟨"ButterflyCode$Seeker", "sumAt", "(LButterflyCode$State;IJ)I"⟩, 8) := ⟨⟨by decide +kernel, by decide +kernel⟩, List.mem_of_getElem? (i := 284) (by decide +kernel), List.mem_of_getElem? (i := 884) (by decide +kernel), List.mem_of_getElem? (i := 885) (by decide +kernel)⟩
theorem lw_p46 : lw_okq (⟨"ButterflyCode$AllWords", "makeBasis", "(LButterflyCode$State;)V"⟩, 4) := ⟨⟨by decide +kernel, by decide +kernel⟩, List.mem_of_getElem? (i := 319) (by decide +kernel), List.mem_of_getElem? (i := 908) (by decide +kernel), List.mem_of_getElem? (i := 909) (by decide +kernel)⟩
theorem lw_p47 : lw_okq (⟨"ButterflyCode$AllWords", "makePlanes", "(LButterflyCode$State;)V"⟩, 4) := ⟨⟨by decide +kernel, by decide +kernel⟩, List.mem_of_getElem? (i := 319) (by decide +kernel), List.mem_of_getElem? (i := 913) (by decide +kernel), List.mem_of_getElem? (i := 914) (by decide +kernel)⟩
def lw_privs_3 : List (MethodName × Nat) := [(⟨"ButterflyCode$Reader", "decide", "(I)V"⟩, 16), (⟨"ButterflyCode$Reader", "freeze", "(I)V"⟩, 16), (⟨"ButterflyCode$Reader", "takeOther", "(I)V"⟩, 16), (⟨"ButterflyCode$Reader", "split", "(I)V"⟩, 16), (⟨"ButterflyCode$Reader", "sortIn", "(I)V"⟩, 16), (⟨"ButterflyCode$Reader", "choose", "()V"⟩, 16), (⟨"ButterflyCode$Flips", "leastSure", "(J)I"⟩, 5), (⟨"ButterflyCode$Seeker", "push", "(IIJ)V"⟩, 8), (⟨"ButterflyCode$Seeker", "move", "(II)V"⟩, 8), (⟨"ButterflyCode$Seeker", "goOn", "(LButterflyCode$State;)V"⟩, 8), (⟨"ButterflyCode$Seeker", "dropFirst", "()V"⟩, 8), (⟨"ButterflyCode$Seeker", "firstChild", "(I)I"⟩, 8), (⟨"ButterflyCode$Seeker", "grow", "(LButterflyCode$State;IIJ)V"⟩, 8), (⟨"ButterflyCode$Seeker", "sumAt", "(LButterflyCode$State;IJ)I"⟩, 8), (⟨"ButterflyCode$AllWords", "makeBasis", "(LButterflyCode$State;)V"⟩, 4), (⟨"ButterflyCode$AllWords", "makePlanes", "(LButterflyCode$State;)V"⟩, 4)]
theorem lw_r3 : ∀ q ∈ lw_privs_3, lw_okq q := List.forall_mem_cons.mpr ⟨lw_p32, List.forall_mem_cons.mpr ⟨lw_p33, List.forall_mem_cons.mpr ⟨lw_p34, List.forall_mem_cons.mpr ⟨lw_p35, List.forall_mem_cons.mpr ⟨lw_p36, List.forall_mem_cons.mpr ⟨lw_p37, List.forall_mem_cons.mpr ⟨lw_p38, List.forall_mem_cons.mpr ⟨lw_p39, List.forall_mem_cons.mpr ⟨lw_p40, List.forall_mem_cons.mpr ⟨lw_p41, List.forall_mem_cons.mpr ⟨lw_p42, List.forall_mem_cons.mpr ⟨lw_p43, List.forall_mem_cons.mpr ⟨lw_p44, List.forall_mem_cons.mpr ⟨lw_p45, List.forall_mem_cons.mpr ⟨lw_p46, List.forall_mem_cons.mpr ⟨lw_p47, fun _ h => absurd h List.not_mem_nil⟩⟩⟩⟩⟩⟩⟩⟩⟩⟩⟩⟩⟩⟩⟩⟩
theorem lw_p48 : lw_okq (⟨"ButterflyCode$AllWords", "weigh", "(J)I"⟩, 4) := ⟨⟨by decide +kernel, by decide +kernel⟩, List.mem_of_getElem? (i := 319) (by decide +kernel), List.mem_of_getElem? (i := 921) (by decide +kernel), List.mem_of_getElem? (i := 922) (by decide +kernel)⟩
theorem lw_p49 : lw_okq (⟨"ButterflyCode$AllWords", "consider", "(II)V"⟩, 4) := ⟨⟨by decide +kernel, by decide +kernel⟩, List.mem_of_getElem? (i := 319) (by decide +kernel), List.mem_of_getElem? (i := 927) (by decide +kernel), List.mem_of_getElem? (i := 928) (by decide +kernel)⟩
theorem lw_p50 : lw_okq (⟨"ButterflyCode", "readsFrameRight", "(II)Z"⟩, 14) := ⟨⟨by decide +kernel, by decide +kernel⟩, List.mem_of_getElem? (i := 21) (by decide +kernel), List.mem_of_getElem? (i := 947) (by decide +kernel), List.mem_of_getElem? (i := 948) (by decide +kernel)⟩
theorem lw_p51 : lw_okq (⟨"ButterflyCodeModel", "readsAll", "()Z"⟩, 54) := ⟨⟨by decide +kernel, by decide +kernel⟩, List.mem_of_getElem? (i := 971) (by decide +kernel), List.mem_of_getElem? (i := 1155) (by decide +kernel), List.mem_of_getElem? (i := 1156) (by decide +kernel)⟩
theorem lw_p52 : lw_okq (⟨"ButterflyCodeModel", "readsLine", "(Z)Z"⟩, 54) := ⟨⟨by decide +kernel, by decide +kernel⟩, List.mem_of_getElem? (i := 971) (by decide +kernel), List.mem_of_getElem? (i := 1159) (by decide +kernel), List.mem_of_getElem? (i := 1160) (by decide +kernel)⟩
theorem lw_p53 : lw_okq (⟨"ButterflyCodeModel", "wordHere", "()I"⟩, 54) := ⟨⟨by decide +kernel, by decide +kernel⟩, List.mem_of_getElem? (i := 971) (by decide +kernel), List.mem_of_getElem? (i := 1163) (by decide +kernel), List.mem_of_getElem? (i := 1164) (by decide +kernel)⟩
theorem lw_p54 : lw_okq (⟨"ButterflyCodeModel", "next", "()I"⟩, 54) := ⟨⟨by decide +kernel, by decide +kernel⟩, List.mem_of_getElem? (i := 971) (by decide +kernel), List.mem_of_getElem? (i := 1167) (by decide +kernel), List.mem_of_getElem? (i := 1168) (by decide +kernel)⟩
theorem lw_p55 : lw_okq (⟨"ButterflyCodeModel", "byteAt", "(I)I"⟩, 54) := ⟨⟨by decide +kernel, by decide +kernel⟩, List.mem_of_getElem? (i := 971) (by decide +kernel), List.mem_of_getElem? (i := 1171) (by decide +kernel), List.mem_of_getElem? (i := 1172) (by decide +kernel)⟩
theorem lw_p56 : lw_okq (⟨"ButterflyCodeModel", "fails", "(II)Z"⟩, 54) := ⟨⟨by decide +kernel, by decide +kernel⟩, List.mem_of_getElem? (i := 971) (by decide +kernel), List.mem_of_getElem? (i := 1178) (by decide +kernel), List.mem_of_getElem? (i := 1179) (by decide +kernel)⟩
theorem lw_p57 : lw_okq (⟨"ButterflyCodeModel", "reads", "(II)Z"⟩, 54) := ⟨⟨by decide +kernel, by decide +kernel⟩, List.mem_of_getElem? (i := 971) (by decide +kernel), List.mem_of_getElem? (i := 1182) (by decide +kernel), List.mem_of_getElem? (i := 1183) (by decide +kernel)⟩
theorem lw_p58 : lw_okq (⟨"ButterflyCodeModel", "readsInfo", "()Z"⟩, 54) := ⟨⟨by decide +kernel, by decide +kernel⟩, List.mem_of_getElem? (i := 971) (by decide +kernel), List.mem_of_getElem? (i := 1192) (by decide +kernel), List.mem_of_getElem? (i := 1193) (by decide +kernel)⟩
theorem lw_p59 : lw_okq (⟨"ButterflyCodeModel", "keepsAct", "()V"⟩, 54) := ⟨⟨by decide +kernel, by decide +kernel⟩, List.mem_of_getElem? (i := 971) (by decide +kernel), List.mem_of_getElem? (i := 1202) (by decide +kernel), List.mem_of_getElem? (i := 1203) (by decide +kernel)⟩
theorem lw_p60 : lw_okq (⟨"ButterflyCodeModel", "keeps", "(I)V"⟩, 54) := ⟨⟨by decide +kernel, by decide +kernel⟩, List.mem_of_getElem? (i := 971) (by decide +kernel), List.mem_of_getElem? (i := 1206) (by decide +kernel), List.mem_of_getElem? (i := 1207) (by decide +kernel)⟩
theorem lw_p61 : lw_okq (⟨"ButterflyCodeModel", "keptBy", "(I)J"⟩, 54) := ⟨⟨by decide +kernel, by decide +kernel⟩, List.mem_of_getElem? (i := 971) (by decide +kernel), List.mem_of_getElem? (i := 1210) (by decide +kernel), List.mem_of_getElem? (i := 1211) (by decide +kernel)⟩
theorem lw_p62 : lw_okq (⟨"ButterflyCodeModel", "isBetter", "(II)Z"⟩, 54) := ⟨⟨by decide +kernel, by decide +kernel⟩, List.mem_of_getElem? (i := 971) (by decide +kernel), List.mem_of_getElem? (i := 1214) (by decide +kernel), List.mem_of_getElem? (i := 1215) (by decide +kernel)⟩
theorem lw_p63 : lw_okq (⟨"ButterflyCodeModel", "zOf", "(I)J"⟩, 54) := ⟨⟨by decide +kernel, by decide +kernel⟩, List.mem_of_getElem? (i := 971) (by decide +kernel), List.mem_of_getElem? (i := 1218) (by decide +kernel), List.mem_of_getElem? (i := 1219) (by decide +kernel)⟩
def lw_privs_4 : List (MethodName × Nat) := [(⟨"ButterflyCode$AllWords", "weigh", "(J)I"⟩, 4), (⟨"ButterflyCode$AllWords", "consider", "(II)V"⟩, 4), (⟨"ButterflyCode", "readsFrameRight", "(II)Z"⟩, 14), (⟨"ButterflyCodeModel", "readsAll", "()Z"⟩, 54), (⟨"ButterflyCodeModel", "readsLine", "(Z)Z"⟩, 54), (⟨"ButterflyCodeModel", "wordHere", "()I"⟩, 54), (⟨"ButterflyCodeModel", "next", "()I"⟩, 54), (⟨"ButterflyCodeModel", "byteAt", "(I)I"⟩, 54), (⟨"ButterflyCodeModel", "fails", "(II)Z"⟩, 54), (⟨"ButterflyCodeModel", "reads", "(II)Z"⟩, 54), (⟨"ButterflyCodeModel", "readsInfo", "()Z"⟩, 54), (⟨"ButterflyCodeModel", "keepsAct", "()V"⟩, 54), (⟨"ButterflyCodeModel", "keeps", "(I)V"⟩, 54), (⟨"ButterflyCodeModel", "keptBy", "(I)J"⟩, 54), (⟨"ButterflyCodeModel", "isBetter", "(II)Z"⟩, 54), (⟨"ButterflyCodeModel", "zOf", "(I)J"⟩, 54)]
theorem lw_r4 : ∀ q ∈ lw_privs_4, lw_okq q := List.forall_mem_cons.mpr ⟨lw_p48, List.forall_mem_cons.mpr ⟨lw_p49, List.forall_mem_cons.mpr ⟨lw_p50, List.forall_mem_cons.mpr ⟨lw_p51, List.forall_mem_cons.mpr ⟨lw_p52, List.forall_mem_cons.mpr ⟨lw_p53, List.forall_mem_cons.mpr ⟨lw_p54, List.forall_mem_cons.mpr ⟨lw_p55, List.forall_mem_cons.mpr ⟨lw_p56, List.forall_mem_cons.mpr ⟨lw_p57, List.forall_mem_cons.mpr ⟨lw_p58, List.forall_mem_cons.mpr ⟨lw_p59, List.forall_mem_cons.mpr ⟨lw_p60, List.forall_mem_cons.mpr ⟨lw_p61, List.forall_mem_cons.mpr ⟨lw_p62, List.forall_mem_cons.mpr ⟨lw_p63, fun _ h => absurd h List.not_mem_nil⟩⟩⟩⟩⟩⟩⟩⟩⟩⟩⟩⟩⟩⟩⟩⟩
theorem lw_p64 : lw_okq (⟨"ButterflyCodeModel", "isChannel", "(I)Z"⟩, 54) := ⟨⟨by decide +kernel, by decide +kernel⟩, List.mem_of_getElem? (i := 971) (by decide +kernel), List.mem_of_getElem? (i := 1229) (by decide +kernel), List.mem_of_getElem? (i := 1230) (by decide +kernel)⟩
theorem lw_p65 : lw_okq (⟨"ButterflyCodeModel", "fits", "(J)Z"⟩, 54) := ⟨⟨by decide +kernel, by decide +kernel⟩, List.mem_of_getElem? (i := 971) (by decide +kernel), List.mem_of_getElem? (i := 1242) (by decide +kernel), List.mem_of_getElem? (i := 1243) (by decide +kernel)⟩
theorem lw_p66 : lw_okq (⟨"ButterflyCodeModel", "isCode", "()Z"⟩, 54) := ⟨⟨by decide +kernel, by decide +kernel⟩, List.mem_of_getElem? (i := 971) (by decide +kernel), List.mem_of_getElem? (i := 1246) (by decide +kernel), List.mem_of_getElem? (i := 1247) (by decide +kernel)⟩
theorem lw_p67 : lw_okq (⟨"ButterflyCodeModel", "channelsOf", "(J)J"⟩, 54) := ⟨⟨by decide +kernel, by decide +kernel⟩, List.mem_of_getElem? (i := 971) (by decide +kernel), List.mem_of_getElem? (i := 1250) (by decide +kernel), List.mem_of_getElem? (i := 1251) (by decide +kernel)⟩
theorem lw_p68 : lw_okq (⟨"ButterflyCodeModel", "checkOf", "(J)I"⟩, 54) := ⟨⟨by decide +kernel, by decide +kernel⟩, List.mem_of_getElem? (i := 971) (by decide +kernel), List.mem_of_getElem? (i := 1254) (by decide +kernel), List.mem_of_getElem? (i := 1255) (by decide +kernel)⟩
theorem lw_p69 : lw_okq (⟨"ButterflyCodeModel", "spread", "(J)J"⟩, 54) := ⟨⟨by decide +kernel, by decide +kernel⟩, List.mem_of_getElem? (i := 971) (by decide +kernel), List.mem_of_getElem? (i := 1269) (by decide +kernel), List.mem_of_getElem? (i := 1270) (by decide +kernel)⟩
theorem lw_p70 : lw_okq (⟨"ButterflyCodeModel", "sends", "(JII)V"⟩, 54) := ⟨⟨by decide +kernel, by decide +kernel⟩, List.mem_of_getElem? (i := 971) (by decide +kernel), List.mem_of_getElem? (i := 1296) (by decide +kernel), List.mem_of_getElem? (i := 1297) (by decide +kernel)⟩
theorem lw_p71 : lw_okq (⟨"ButterflyCodeModel", "draw", "(I)I"⟩, 54) := ⟨⟨by decide +kernel, by decide +kernel⟩, List.mem_of_getElem? (i := 971) (by decide +kernel), List.mem_of_getElem? (i := 1300) (by decide +kernel), List.mem_of_getElem? (i := 1301) (by decide +kernel)⟩
theorem lw_p72 : lw_okq (⟨"ButterflyCodeModel", "distanceOf", "(J)I"⟩, 54) := ⟨⟨by decide +kernel, by decide +kernel⟩, List.mem_of_getElem? (i := 971) (by decide +kernel), List.mem_of_getElem? (i := 1316) (by decide +kernel), List.mem_of_getElem? (i := 1317) (by decide +kernel)⟩
theorem lw_p73 : lw_okq (⟨"ButterflyCodeModel", "reading", "(I)V"⟩, 54) := ⟨⟨by decide +kernel, by decide +kernel⟩, List.mem_of_getElem? (i := 971) (by decide +kernel), List.mem_of_getElem? (i := 1329) (by decide +kernel), List.mem_of_getElem? (i := 1330) (by decide +kernel)⟩
theorem lw_p74 : lw_okq (⟨"ButterflyCodeModel", "branches", "(I)I"⟩, 54) := ⟨⟨by decide +kernel, by decide +kernel⟩, List.mem_of_getElem? (i := 971) (by decide +kernel), List.mem_of_getElem? (i := 1333) (by decide +kernel), List.mem_of_getElem? (i := 1334) (by decide +kernel)⟩
theorem lw_p75 : lw_okq (⟨"ButterflyCodeModel", "sumAt", "(JI)I"⟩, 54) := ⟨⟨by decide +kernel, by decide +kernel⟩, List.mem_of_getElem? (i := 971) (by decide +kernel), List.mem_of_getElem? (i := 1337) (by decide +kernel), List.mem_of_getElem? (i := 1338) (by decide +kernel)⟩
theorem lw_p76 : lw_okq (⟨"ButterflyCodeModel", "laysNode", "(JII)V"⟩, 54) := ⟨⟨by decide +kernel, by decide +kernel⟩, List.mem_of_getElem? (i := 971) (by decide +kernel), List.mem_of_getElem? (i := 1341) (by decide +kernel), List.mem_of_getElem? (i := 1342) (by decide +kernel)⟩
theorem lw_p77 : lw_okq (⟨"ButterflyCodeModel", "leastOf", "(I)I"⟩, 54) := ⟨⟨by decide +kernel, by decide +kernel⟩, List.mem_of_getElem? (i := 971) (by decide +kernel), List.mem_of_getElem? (i := 1351) (by decide +kernel), List.mem_of_getElem? (i := 1352) (by decide +kernel)⟩
theorem lw_p78 : lw_okq (⟨"ButterflyCodeModel", "takes", "(III)V"⟩, 54) := ⟨⟨by decide +kernel, by decide +kernel⟩, List.mem_of_getElem? (i := 971) (by decide +kernel), List.mem_of_getElem? (i := 1355) (by decide +kernel), List.mem_of_getElem? (i := 1356) (by decide +kernel)⟩
theorem lw_p79 : lw_okq (⟨"ButterflyCodeModel", "chosen", "()I"⟩, 54) := ⟨⟨by decide +kernel, by decide +kernel⟩, List.mem_of_getElem? (i := 971) (by decide +kernel), List.mem_of_getElem? (i := 1359) (by decide +kernel), List.mem_of_getElem? (i := 1360) (by decide +kernel)⟩
def lw_privs_5 : List (MethodName × Nat) := [(⟨"ButterflyCodeModel", "isChannel", "(I)Z"⟩, 54), (⟨"ButterflyCodeModel", "fits", "(J)Z"⟩, 54), (⟨"ButterflyCodeModel", "isCode", "()Z"⟩, 54), (⟨"ButterflyCodeModel", "channelsOf", "(J)J"⟩, 54), (⟨"ButterflyCodeModel", "checkOf", "(J)I"⟩, 54), (⟨"ButterflyCodeModel", "spread", "(J)J"⟩, 54), (⟨"ButterflyCodeModel", "sends", "(JII)V"⟩, 54), (⟨"ButterflyCodeModel", "draw", "(I)I"⟩, 54), (⟨"ButterflyCodeModel", "distanceOf", "(J)I"⟩, 54), (⟨"ButterflyCodeModel", "reading", "(I)V"⟩, 54), (⟨"ButterflyCodeModel", "branches", "(I)I"⟩, 54), (⟨"ButterflyCodeModel", "sumAt", "(JI)I"⟩, 54), (⟨"ButterflyCodeModel", "laysNode", "(JII)V"⟩, 54), (⟨"ButterflyCodeModel", "leastOf", "(I)I"⟩, 54), (⟨"ButterflyCodeModel", "takes", "(III)V"⟩, 54), (⟨"ButterflyCodeModel", "chosen", "()I"⟩, 54)]
theorem lw_r5 : ∀ q ∈ lw_privs_5, lw_okq q := List.forall_mem_cons.mpr ⟨lw_p64, List.forall_mem_cons.mpr ⟨lw_p65, List.forall_mem_cons.mpr ⟨lw_p66, List.forall_mem_cons.mpr ⟨lw_p67, List.forall_mem_cons.mpr ⟨lw_p68, List.forall_mem_cons.mpr ⟨lw_p69, List.forall_mem_cons.mpr ⟨lw_p70, List.forall_mem_cons.mpr ⟨lw_p71, List.forall_mem_cons.mpr ⟨lw_p72, List.forall_mem_cons.mpr ⟨lw_p73, List.forall_mem_cons.mpr ⟨lw_p74, List.forall_mem_cons.mpr ⟨lw_p75, List.forall_mem_cons.mpr ⟨lw_p76, List.forall_mem_cons.mpr ⟨lw_p77, List.forall_mem_cons.mpr ⟨lw_p78, List.forall_mem_cons.mpr ⟨lw_p79, fun _ h => absurd h List.not_mem_nil⟩⟩⟩⟩⟩⟩⟩⟩⟩⟩⟩⟩⟩⟩⟩⟩
theorem lw_p80 : lw_okq (⟨"ButterflyCodeModel", "firstThatHolds", "()I"⟩, 54) := ⟨⟨by decide +kernel, by decide +kernel⟩, List.mem_of_getElem? (i := 971) (by decide +kernel), List.mem_of_getElem? (i := 1363) (by decide +kernel), List.mem_of_getElem? (i := 1364) (by decide +kernel)⟩
theorem lw_p81 : lw_okq (⟨"ButterflyCodeModel", "holds", "(J)Z"⟩, 54) := ⟨⟨by decide +kernel, by decide +kernel⟩, List.mem_of_getElem? (i := 971) (by decide +kernel), List.mem_of_getElem? (i := 1367) (by decide +kernel), List.mem_of_getElem? (i := 1368) (by decide +kernel)⟩
theorem lw_p82 : lw_okq (⟨"ButterflyCodeModel", "messageOf", "(J)J"⟩, 54) := ⟨⟨by decide +kernel, by decide +kernel⟩, List.mem_of_getElem? (i := 971) (by decide +kernel), List.mem_of_getElem? (i := 1371) (by decide +kernel), List.mem_of_getElem? (i := 1372) (by decide +kernel)⟩
theorem lw_p83 : lw_okq (⟨"ButterflyCodeModel", "works", "(IZ)V"⟩, 54) := ⟨⟨by decide +kernel, by decide +kernel⟩, List.mem_of_getElem? (i := 971) (by decide +kernel), List.mem_of_getElem? (i := 1392) (by decide +kernel), List.mem_of_getElem? (i := 1393) (by decide +kernel)⟩
theorem lw_p84 : lw_okq (⟨"ButterflyCodeModel", "isGoneTo", "(IZII)Z"⟩, 54) := ⟨⟨by decide +kernel, by decide +kernel⟩, List.mem_of_getElem? (i := 971) (by decide +kernel), List.mem_of_getElem? (i := 1396) (by decide +kernel), List.mem_of_getElem? (i := 1397) (by decide +kernel)⟩
theorem lw_p85 : lw_okq (⟨"ButterflyCodeModel", "isCut", "(III)Z"⟩, 54) := ⟨⟨by decide +kernel, by decide +kernel⟩, List.mem_of_getElem? (i := 971) (by decide +kernel), List.mem_of_getElem? (i := 1400) (by decide +kernel), List.mem_of_getElem? (i := 1401) (by decide +kernel)⟩
theorem lw_p86 : lw_okq (⟨"ButterflyCodeModel", "isAll", "(IIZ)Z"⟩, 54) := ⟨⟨by decide +kernel, by decide +kernel⟩, List.mem_of_getElem? (i := 971) (by decide +kernel), List.mem_of_getElem? (i := 1404) (by decide +kernel), List.mem_of_getElem? (i := 1405) (by decide +kernel)⟩
theorem lw_p87 : lw_okq (⟨"ButterflyCodeModel", "isSure", "(II)Z"⟩, 54) := ⟨⟨by decide +kernel, by decide +kernel⟩, List.mem_of_getElem? (i := 971) (by decide +kernel), List.mem_of_getElem? (i := 1408) (by decide +kernel), List.mem_of_getElem? (i := 1409) (by decide +kernel)⟩
theorem lw_p88 : lw_okq (⟨"ButterflyCodeModel", "pathsAhead", "(II)I"⟩, 54) := ⟨⟨by decide +kernel, by decide +kernel⟩, List.mem_of_getElem? (i := 971) (by decide +kernel), List.mem_of_getElem? (i := 1412) (by decide +kernel), List.mem_of_getElem? (i := 1413) (by decide +kernel)⟩
theorem lw_p89 : lw_okq (⟨"ButterflyCodeModel", "leastSure", "(J)I"⟩, 54) := ⟨⟨by decide +kernel, by decide +kernel⟩, List.mem_of_getElem? (i := 971) (by decide +kernel), List.mem_of_getElem? (i := 1424) (by decide +kernel), List.mem_of_getElem? (i := 1425) (by decide +kernel)⟩
theorem lw_p90 : lw_okq (⟨"ButterflyCodeModel", "readsTurned", "(I)V"⟩, 54) := ⟨⟨by decide +kernel, by decide +kernel⟩, List.mem_of_getElem? (i := 971) (by decide +kernel), List.mem_of_getElem? (i := 1428) (by decide +kernel), List.mem_of_getElem? (i := 1429) (by decide +kernel)⟩
theorem lw_p91 : lw_okq (⟨"ButterflyCodeModel", "seeks", "()Z"⟩, 54) := ⟨⟨by decide +kernel, by decide +kernel⟩, List.mem_of_getElem? (i := 971) (by decide +kernel), List.mem_of_getElem? (i := 1436) (by decide +kernel), List.mem_of_getElem? (i := 1437) (by decide +kernel)⟩
theorem lw_p92 : lw_okq (⟨"ButterflyCodeModel", "begins", "(JII)V"⟩, 54) := ⟨⟨by decide +kernel, by decide +kernel⟩, List.mem_of_getElem? (i := 971) (by decide +kernel), List.mem_of_getElem? (i := 1440) (by decide +kernel), List.mem_of_getElem? (i := 1441) (by decide +kernel)⟩
theorem lw_p93 : lw_okq (⟨"ButterflyCodeModel", "bestBegun", "()I"⟩, 54) := ⟨⟨by decide +kernel, by decide +kernel⟩, List.mem_of_getElem? (i := 971) (by decide +kernel), List.mem_of_getElem? (i := 1444) (by decide +kernel), List.mem_of_getElem? (i := 1445) (by decide +kernel)⟩
theorem lw_p94 : lw_okq (⟨"ButterflyCodeModel", "isAhead", "(II)Z"⟩, 54) := ⟨⟨by decide +kernel, by decide +kernel⟩, List.mem_of_getElem? (i := 971) (by decide +kernel), List.mem_of_getElem? (i := 1448) (by decide +kernel), List.mem_of_getElem? (i := 1449) (by decide +kernel)⟩
theorem lw_p95 : lw_okq (⟨"ButterflyCodeModel", "goesOn", "(I)V"⟩, 54) := ⟨⟨by decide +kernel, by decide +kernel⟩, List.mem_of_getElem? (i := 971) (by decide +kernel), List.mem_of_getElem? (i := 1452) (by decide +kernel), List.mem_of_getElem? (i := 1453) (by decide +kernel)⟩
def lw_privs_6 : List (MethodName × Nat) := [(⟨"ButterflyCodeModel", "firstThatHolds", "()I"⟩, 54), (⟨"ButterflyCodeModel", "holds", "(J)Z"⟩, 54), (⟨"ButterflyCodeModel", "messageOf", "(J)J"⟩, 54), (⟨"ButterflyCodeModel", "works", "(IZ)V"⟩, 54), (⟨"ButterflyCodeModel", "isGoneTo", "(IZII)Z"⟩, 54), (⟨"ButterflyCodeModel", "isCut", "(III)Z"⟩, 54), (⟨"ButterflyCodeModel", "isAll", "(IIZ)Z"⟩, 54), (⟨"ButterflyCodeModel", "isSure", "(II)Z"⟩, 54), (⟨"ButterflyCodeModel", "pathsAhead", "(II)I"⟩, 54), (⟨"ButterflyCodeModel", "leastSure", "(J)I"⟩, 54), (⟨"ButterflyCodeModel", "readsTurned", "(I)V"⟩, 54), (⟨"ButterflyCodeModel", "seeks", "()Z"⟩, 54), (⟨"ButterflyCodeModel", "begins", "(JII)V"⟩, 54), (⟨"ButterflyCodeModel", "bestBegun", "()I"⟩, 54), (⟨"ButterflyCodeModel", "isAhead", "(II)Z"⟩, 54), (⟨"ButterflyCodeModel", "goesOn", "(I)V"⟩, 54)]
theorem lw_r6 : ∀ q ∈ lw_privs_6, lw_okq q := List.forall_mem_cons.mpr ⟨lw_p80, List.forall_mem_cons.mpr ⟨lw_p81, List.forall_mem_cons.mpr ⟨lw_p82, List.forall_mem_cons.mpr ⟨lw_p83, List.forall_mem_cons.mpr ⟨lw_p84, List.forall_mem_cons.mpr ⟨lw_p85, List.forall_mem_cons.mpr ⟨lw_p86, List.forall_mem_cons.mpr ⟨lw_p87, List.forall_mem_cons.mpr ⟨lw_p88, List.forall_mem_cons.mpr ⟨lw_p89, List.forall_mem_cons.mpr ⟨lw_p90, List.forall_mem_cons.mpr ⟨lw_p91, List.forall_mem_cons.mpr ⟨lw_p92, List.forall_mem_cons.mpr ⟨lw_p93, List.forall_mem_cons.mpr ⟨lw_p94, List.forall_mem_cons.mpr ⟨lw_p95, fun _ h => absurd h List.not_mem_nil⟩⟩⟩⟩⟩⟩⟩⟩⟩⟩⟩⟩⟩⟩⟩⟩
theorem lw_p96 : lw_okq (⟨"ButterflyCodeModel", "goesBack", "(I)V"⟩, 54) := ⟨⟨by decide +kernel, by decide +kernel⟩, List.mem_of_getElem? (i := 971) (by decide +kernel), List.mem_of_getElem? (i := 1481) (by decide +kernel), List.mem_of_getElem? (i := 1482) (by decide +kernel)⟩
theorem lw_p97 : lw_okq (⟨"ButterflyCodeModel", "silent", "()I"⟩, 54) := ⟨⟨by decide +kernel, by decide +kernel⟩, List.mem_of_getElem? (i := 971) (by decide +kernel), List.mem_of_getElem? (i := 1497) (by decide +kernel), List.mem_of_getElem? (i := 1498) (by decide +kernel)⟩
def lw_privs_7 : List (MethodName × Nat) := [(⟨"ButterflyCodeModel", "goesBack", "(I)V"⟩, 54), (⟨"ButterflyCodeModel", "silent", "()I"⟩, 54)]
theorem lw_r7 : ∀ q ∈ lw_privs_7, lw_okq q := List.forall_mem_cons.mpr ⟨lw_p96, List.forall_mem_cons.mpr ⟨lw_p97, fun _ h => absurd h List.not_mem_nil⟩⟩
def lw_privs : List (MethodName × Nat) := lw_privs_1 ++ (lw_privs_2 ++ (lw_privs_3 ++ (lw_privs_4 ++ (lw_privs_5 ++ (lw_privs_6 ++ (lw_privs_7))))))
def lw_tbl : List Cond := k2_sels lw_privs ++ tables_1
theorem lw_privs_ok : ∀ q ∈ lw_privs, lw_okq q := by
  show ∀ q ∈ lw_privs_1 ++ (lw_privs_2 ++ (lw_privs_3 ++ (lw_privs_4 ++ (lw_privs_5 ++ (lw_privs_6 ++ (lw_privs_7)))))), lw_okq q
  exact List.forall_mem_append.mpr ⟨lw_r1, List.forall_mem_append.mpr ⟨lw_r2, List.forall_mem_append.mpr ⟨lw_r3, List.forall_mem_append.mpr ⟨lw_r4, List.forall_mem_append.mpr ⟨lw_r5, List.forall_mem_append.mpr ⟨lw_r6, lw_r7⟩⟩⟩⟩⟩⟩
def RX0 : String := "ButterflyCode$AllWords"
def TX0 : u_T := fun k => match k with
  | 0 => ("ButterflyCode$AllWords", "message", "I", false)
  | 1 => ("ButterflyCode$AllWords", "leastDistance", "I", false)
  | 2 => ("ButterflyCode$AllWords", "basis", "[J", true)
  | _ => ("ButterflyCode$AllWords", "planes", "[J", true)
def tyX0 : Nat → FieldType := fun k => match k with
  | 0 => .int
  | 1 => .int
  | 2 => .array .long
  | _ => .array .long
abbrev wsX00 : List Cond := u_ws RX0 TX0 4
theorem nmX0 : ∀ a, a < 4 → ∀ b, b < 4 → a ≠ b → (TX0 a).2.1 ≠ (TX0 b).2.1 := by decide +kernel
theorem tyX0_ok : ∀ k, k < 4 → parseFieldDescriptor (TX0 k).2.2.1 = some (tyX0 k) := by decide +kernel
def RX1 : String := "ButterflyCode$CodeText"
def TX1 : u_T := fun k => match k with
  | 0 => ("ButterflyCode$CodeText", "told", "LButterflyCode$State;", true)
  | 1 => ("ButterflyCode$CodeText", "badness", "[J", true)
  | 2 => ("ButterflyCode$CodeText", "bytes", "[B", false)
  | 3 => ("ButterflyCode$CodeText", "length", "I", false)
  | 4 => ("ButterflyCode$CodeText", "place", "I", false)
  | 5 => ("ButterflyCode$CodeText", "fault", "I", false)
  | _ => ("ButterflyCode$CodeText", "wordsTold", "I", false)
def tyX1 : Nat → FieldType := fun k => match k with
  | 0 => .object "ButterflyCode$State"
  | 1 => .array .long
  | 2 => .array .byte
  | 3 => .int
  | 4 => .int
  | 5 => .int
  | _ => .int
abbrev wsX10 : List Cond := u_ws RX1 TX1 7
theorem nmX1 : ∀ a, a < 7 → ∀ b, b < 7 → a ≠ b → (TX1 a).2.1 ≠ (TX1 b).2.1 := by decide +kernel
theorem tyX1_ok : ∀ k, k < 7 → parseFieldDescriptor (TX1 k).2.2.1 = some (tyX1 k) := by decide +kernel
def RX2 : String := "ButterflyCode$Flips"
def TX2 : u_T := fun k => match k with
  | 0 => ("ButterflyCode$Flips", "tried", "I", false)
  | 1 => ("ButterflyCode$Flips", "channel", "I", false)
  | 2 => ("ButterflyCode$Flips", "metric", "I", false)
  | 3 => ("ButterflyCode$Flips", "holds", "Z", false)
  | _ => ("ButterflyCode$Flips", "sureness", "[I", true)
def tyX2 : Nat → FieldType := fun k => match k with
  | 0 => .int
  | 1 => .int
  | 2 => .int
  | 3 => .boolean
  | _ => .array .int
abbrev wsX20 : List Cond := u_ws RX2 TX2 5
theorem nmX2 : ∀ a, a < 5 → ∀ b, b < 5 → a ≠ b → (TX2 a).2.1 ≠ (TX2 b).2.1 := by decide +kernel
theorem tyX2_ok : ∀ k, k < 5 → parseFieldDescriptor (TX2 k).2.2.1 = some (tyX2 k) := by decide +kernel
def RX3 : String := "ButterflyCode$Paths"
def TX3 : u_T := fun k => match k with
  | 0 => ("ButterflyCode$Paths", "count", "I", false)
  | 1 => ("ButterflyCode$Paths", "bits", "[J", true)
  | 2 => ("ButterflyCode$Paths", "metrics", "[I", true)
  | _ => ("ButterflyCode$Paths", "rows", "[I", true)
def tyX3 : Nat → FieldType := fun k => match k with
  | 0 => .int
  | 1 => .array .long
  | 2 => .array .int
  | _ => .array .int
abbrev wsX30 : List Cond := u_ws RX3 TX3 4
theorem nmX3 : ∀ a, a < 4 → ∀ b, b < 4 → a ≠ b → (TX3 a).2.1 ≠ (TX3 b).2.1 := by decide +kernel
theorem tyX3_ok : ∀ k, k < 4 → parseFieldDescriptor (TX3 k).2.2.1 = some (tyX3 k) := by decide +kernel
def RX4 : String := "ButterflyCode$Reader"
def TX4 : u_T := fun k => match k with
  | 0 => ("ButterflyCode$Reader", "paths", "LButterflyCode$Paths;", false)
  | 1 => ("ButterflyCode$Reader", "nextPaths", "LButterflyCode$Paths;", false)
  | 2 => ("ButterflyCode$Reader", "trace", "LButterflyCode$Trace;", true)
  | 3 => ("ButterflyCode$Reader", "sureness", "[I", true)
  | 4 => ("ButterflyCode$Reader", "leftWork", "I", false)
  | 5 => ("ButterflyCode$Reader", "rightWork", "I", false)
  | 6 => ("ButterflyCode$Reader", "decided", "I", false)
  | 7 => ("ButterflyCode$Reader", "chosen", "I", false)
  | 8 => ("ButterflyCode$Reader", "holds", "Z", false)
  | 9 => ("ButterflyCode$Reader", "sums", "[I", true)
  | 10 => ("ButterflyCode$Reader", "splitMetrics", "[I", true)
  | 11 => ("ButterflyCode$Reader", "order", "[I", true)
  | 12 => ("ButterflyCode$Reader", "code", "LButterflyCode$State;", false)
  | 13 => ("ButterflyCode$Reader", "list", "I", false)
  | 14 => ("ButterflyCode$Reader", "cut", "Z", false)
  | _ => ("ButterflyCode$Reader", "flip", "I", false)
def tyX4 : Nat → FieldType := fun k => match k with
  | 0 => .object "ButterflyCode$Paths"
  | 1 => .object "ButterflyCode$Paths"
  | 2 => .object "ButterflyCode$Trace"
  | 3 => .array .int
  | 4 => .int
  | 5 => .int
  | 6 => .int
  | 7 => .int
  | 8 => .boolean
  | 9 => .array .int
  | 10 => .array .int
  | 11 => .array .int
  | 12 => .object "ButterflyCode$State"
  | 13 => .int
  | 14 => .boolean
  | _ => .int
abbrev wsX40 : List Cond := u_ws RX4 TX4 16
theorem nmX4 : ∀ a, a < 16 → ∀ b, b < 16 → a ≠ b → (TX4 a).2.1 ≠ (TX4 b).2.1 := by decide +kernel
theorem tyX4_ok : ∀ k, k < 16 → parseFieldDescriptor (TX4 k).2.2.1 = some (tyX4 k) := by decide +kernel
def RX5 : String := "ButterflyCode$Seeker"
def TX5 : u_T := fun k => match k with
  | 0 => ("ButterflyCode$Seeker", "found", "Z", false)
  | 1 => ("ButterflyCode$Seeker", "metric", "I", false)
  | 2 => ("ButterflyCode$Seeker", "channels", "J", false)
  | 3 => ("ButterflyCode$Seeker", "wentOn", "I", false)
  | 4 => ("ButterflyCode$Seeker", "keys", "[I", true)
  | 5 => ("ButterflyCode$Seeker", "beginnings", "[J", true)
  | 6 => ("ButterflyCode$Seeker", "held", "I", false)
  | _ => ("ButterflyCode$Seeker", "sums", "[I", true)
def tyX5 : Nat → FieldType := fun k => match k with
  | 0 => .boolean
  | 1 => .int
  | 2 => .long
  | 3 => .int
  | 4 => .array .int
  | 5 => .array .long
  | 6 => .int
  | _ => .array .int
abbrev wsX50 : List Cond := u_ws RX5 TX5 8
theorem nmX5 : ∀ a, a < 8 → ∀ b, b < 8 → a ≠ b → (TX5 a).2.1 ≠ (TX5 b).2.1 := by decide +kernel
theorem tyX5_ok : ∀ k, k < 8 → parseFieldDescriptor (TX5 k).2.2.1 = some (tyX5 k) := by decide +kernel
def RX6 : String := "ButterflyCode$State"
def TX6 : u_T := fun k => match k with
  | 0 => ("ButterflyCode$State", "m", "I", false)
  | 1 => ("ButterflyCode$State", "n", "I", false)
  | 2 => ("ButterflyCode$State", "k", "I", false)
  | 3 => ("ButterflyCode$State", "c", "I", false)
  | 4 => ("ButterflyCode$State", "poly", "I", false)
  | 5 => ("ButterflyCode$State", "erase", "I", false)
  | 6 => ("ButterflyCode$State", "list", "I", false)
  | 7 => ("ButterflyCode$State", "keptSet", "J", false)
  | _ => ("ButterflyCode$State", "sums", "[I", true)
def tyX6 : Nat → FieldType := fun k => match k with
  | 0 => .int
  | 1 => .int
  | 2 => .int
  | 3 => .int
  | 4 => .int
  | 5 => .int
  | 6 => .int
  | 7 => .long
  | _ => .array .int
abbrev wsX60 : List Cond := u_ws RX6 TX6 9
theorem nmX6 : ∀ a, a < 9 → ∀ b, b < 9 → a ≠ b → (TX6 a).2.1 ≠ (TX6 b).2.1 := by decide +kernel
theorem tyX6_ok : ∀ k, k < 9 → parseFieldDescriptor (TX6 k).2.2.1 = some (tyX6 k) := by decide +kernel
def RX7 : String := "ButterflyCode$Tape"
def TX7 : u_T := fun k => match k with
  | 0 => ("ButterflyCode$Tape", "bytes", "[B", true)
  | _ => ("ButterflyCode$Tape", "length", "I", false)
def tyX7 : Nat → FieldType := fun k => match k with
  | 0 => .array .byte
  | _ => .int
abbrev wsX70 : List Cond := u_ws RX7 TX7 2
theorem nmX7 : ∀ a, a < 2 → ∀ b, b < 2 → a ≠ b → (TX7 a).2.1 ≠ (TX7 b).2.1 := by decide +kernel
theorem tyX7_ok : ∀ k, k < 2 → parseFieldDescriptor (TX7 k).2.2.1 = some (tyX7 k) := by decide +kernel
def RX8 : String := "ButterflyCode$Trace"
def TX8 : u_T := fun k => match k with
  | 0 => ("ButterflyCode$Trace", "counts", "[I", true)
  | 1 => ("ButterflyCode$Trace", "metrics", "[I", true)
  | _ => ("ButterflyCode$Trace", "steps", "[I", true)
def tyX8 : Nat → FieldType := fun k => match k with
  | 0 => .array .int
  | 1 => .array .int
  | _ => .array .int
abbrev wsX80 : List Cond := u_ws RX8 TX8 3
theorem nmX8 : ∀ a, a < 3 → ∀ b, b < 3 → a ≠ b → (TX8 a).2.1 ≠ (TX8 b).2.1 := by decide +kernel
theorem tyX8_ok : ∀ k, k < 3 → parseFieldDescriptor (TX8 k).2.2.1 = some (tyX8 k) := by decide +kernel
def RX9 : String := "ButterflyCode"
def TX9 : u_T := fun k => match k with
  | 0 => ("ButterflyCode", "now", "LButterflyCode$State;", true)
  | 1 => ("ButterflyCode", "past", "[LButterflyCode$State;", true)
  | 2 => ("ButterflyCode", "pastEnd", "I", false)
  | 3 => ("ButterflyCode", "pastCount", "I", false)
  | 4 => ("ButterflyCode", "images", "[LButterflyCode$State;", true)
  | 5 => ("ButterflyCode", "imageMade", "[Z", true)
  | 6 => ("ButterflyCode", "tape", "LButterflyCode$Tape;", true)
  | 7 => ("ButterflyCode", "text", "LButterflyCode$CodeText;", true)
  | 8 => ("ButterflyCode", "reader", "LButterflyCode$Reader;", true)
  | 9 => ("ButterflyCode", "flips", "LButterflyCode$Flips;", true)
  | 10 => ("ButterflyCode", "seeker", "LButterflyCode$Seeker;", true)
  | 11 => ("ButterflyCode", "words", "LButterflyCode$AllWords;", true)
  | 12 => ("ButterflyCode", "frameSums", "[I", true)
  | _ => ("ButterflyCode", "drawn", "I", false)
def tyX9 : Nat → FieldType := fun k => match k with
  | 0 => .object "ButterflyCode$State"
  | 1 => .array (.object "ButterflyCode$State")
  | 2 => .int
  | 3 => .int
  | 4 => .array (.object "ButterflyCode$State")
  | 5 => .array .boolean
  | 6 => .object "ButterflyCode$Tape"
  | 7 => .object "ButterflyCode$CodeText"
  | 8 => .object "ButterflyCode$Reader"
  | 9 => .object "ButterflyCode$Flips"
  | 10 => .object "ButterflyCode$Seeker"
  | 11 => .object "ButterflyCode$AllWords"
  | 12 => .array .int
  | _ => .int
abbrev wsX90 : List Cond := u_ws RX9 TX9 14
theorem nmX9 : ∀ a, a < 14 → ∀ b, b < 14 → a ≠ b → (TX9 a).2.1 ≠ (TX9 b).2.1 := by decide +kernel
theorem tyX9_ok : ∀ k, k < 14 → parseFieldDescriptor (TX9 k).2.2.1 = some (tyX9 k) := by decide +kernel
def RX10 : String := "ButterflyCodeModel"
def TX10 : u_T := fun k => match k with
  | 0 => ("ButterflyCodeModel", "tape", "[B", true)
  | 1 => ("ButterflyCodeModel", "taped", "I", false)
  | 2 => ("ButterflyCodeModel", "at", "I", false)
  | 3 => ("ButterflyCodeModel", "wrong", "I", false)
  | 4 => ("ButterflyCodeModel", "words", "[B", true)
  | 5 => ("ButterflyCodeModel", "isRead", "[Z", true)
  | 6 => ("ButterflyCodeModel", "readM", "I", false)
  | 7 => ("ButterflyCodeModel", "readKeep", "I", false)
  | 8 => ("ButterflyCodeModel", "readInfo", "J", false)
  | 9 => ("ButterflyCodeModel", "readC", "I", false)
  | 10 => ("ButterflyCodeModel", "readPoly", "I", false)
  | 11 => ("ButterflyCodeModel", "readE", "I", false)
  | 12 => ("ButterflyCodeModel", "readL", "I", false)
  | 13 => ("ButterflyCodeModel", "number", "I", false)
  | 14 => ("ButterflyCodeModel", "n", "I", false)
  | 15 => ("ButterflyCodeModel", "m", "I", false)
  | 16 => ("ButterflyCodeModel", "k", "I", false)
  | 17 => ("ButterflyCodeModel", "c", "I", false)
  | 18 => ("ButterflyCodeModel", "poly", "I", false)
  | 19 => ("ButterflyCodeModel", "erase", "I", false)
  | 20 => ("ButterflyCodeModel", "list", "I", false)
  | 21 => ("ButterflyCodeModel", "kept", "J", false)
  | 22 => ("ButterflyCodeModel", "sums", "[I", true)
  | 23 => ("ButterflyCodeModel", "x", "I", false)
  | 24 => ("ButterflyCodeModel", "here", "[I", true)
  | 25 => ("ButterflyCodeModel", "paths", "I", false)
  | 26 => ("ButterflyCodeModel", "bits", "[J", true)
  | 27 => ("ButterflyCodeModel", "metric", "[I", true)
  | 28 => ("ButterflyCodeModel", "newBits", "[J", true)
  | 29 => ("ButterflyCodeModel", "newMetric", "[I", true)
  | 30 => ("ButterflyCodeModel", "newFrom", "[I", true)
  | 31 => ("ButterflyCodeModel", "pathMany", "[I", true)
  | 32 => ("ButterflyCodeModel", "pathMetric", "[I", true)
  | 33 => ("ButterflyCodeModel", "pathBit", "[I", true)
  | 34 => ("ButterflyCodeModel", "pathFrom", "[I", true)
  | 35 => ("ButterflyCodeModel", "decided", "[I", true)
  | 36 => ("ButterflyCodeModel", "leftWork", "I", false)
  | 37 => ("ButterflyCodeModel", "rightWork", "I", false)
  | 38 => ("ButterflyCodeModel", "ones", "I", false)
  | 39 => ("ButterflyCodeModel", "firstDecided", "[I", true)
  | 40 => ("ButterflyCodeModel", "turnedBits", "J", false)
  | 41 => ("ButterflyCodeModel", "turnedMetric", "I", false)
  | 42 => ("ButterflyCodeModel", "begun", "[J", true)
  | 43 => ("ButterflyCodeModel", "long1", "[I", true)
  | 44 => ("ButterflyCodeModel", "begunMetric", "[I", true)
  | 45 => ("ButterflyCodeModel", "begunMany", "I", false)
  | 46 => ("ButterflyCodeModel", "wentOn", "I", false)
  | 47 => ("ButterflyCodeModel", "soughtBits", "J", false)
  | 48 => ("ButterflyCodeModel", "soughtMetric", "I", false)
  | 49 => ("ButterflyCodeModel", "kept1", "[I", true)
  | 50 => ("ButterflyCodeModel", "held", "[I", true)
  | 51 => ("ButterflyCodeModel", "heldKept", "[J", true)
  | 52 => ("ButterflyCodeModel", "hasImage", "[Z", true)
  | _ => ("ButterflyCodeModel", "undone", "I", false)
def tyX10 : Nat → FieldType := fun k => match k with
  | 0 => .array .byte
  | 1 => .int
  | 2 => .int
  | 3 => .int
  | 4 => .array .byte
  | 5 => .array .boolean
  | 6 => .int
  | 7 => .int
  | 8 => .long
  | 9 => .int
  | 10 => .int
  | 11 => .int
  | 12 => .int
  | 13 => .int
  | 14 => .int
  | 15 => .int
  | 16 => .int
  | 17 => .int
  | 18 => .int
  | 19 => .int
  | 20 => .int
  | 21 => .long
  | 22 => .array .int
  | 23 => .int
  | 24 => .array .int
  | 25 => .int
  | 26 => .array .long
  | 27 => .array .int
  | 28 => .array .long
  | 29 => .array .int
  | 30 => .array .int
  | 31 => .array .int
  | 32 => .array .int
  | 33 => .array .int
  | 34 => .array .int
  | 35 => .array .int
  | 36 => .int
  | 37 => .int
  | 38 => .int
  | 39 => .array .int
  | 40 => .long
  | 41 => .int
  | 42 => .array .long
  | 43 => .array .int
  | 44 => .array .int
  | 45 => .int
  | 46 => .int
  | 47 => .long
  | 48 => .int
  | 49 => .array .int
  | 50 => .array .int
  | 51 => .array .long
  | 52 => .array .boolean
  | _ => .int
abbrev wsX100 : List Cond := u_ws RX10 TX10 54
theorem nmX10 : ∀ a, a < 54 → ∀ b, b < 54 → a ≠ b → (TX10 a).2.1 ≠ (TX10 b).2.1 := by decide +kernel
theorem tyX10_ok : ∀ k, k < 54 → parseFieldDescriptor (TX10 k).2.2.1 = some (tyX10 k) := by decide +kernel
abbrev vwCl : List vw_C := [(RX0, TX0, 4), (RX1, TX1, 7), (RX2, TX2, 5), (RX3, TX3, 4), (RX4, TX4, 16), (RX5, TX5, 8), (RX6, TX6, 9), (RX7, TX7, 2), (RX8, TX8, 3), (RX9, TX9, 14), (RX10, TX10, 54)]
/-- kinds of the fields of each class: 0 int, 1 long, 2 reference, 3 boolean -/
def pm_KD : List (List Nat) := [[0, 0, 2, 2], [2, 2, 2, 0, 0, 0, 0], [0, 0, 0, 3, 2], [0, 2, 2, 2], [2, 2, 2, 2, 0, 0, 0, 0, 3, 2, 2, 2, 2, 0, 3, 0], [3, 0, 1, 0, 2, 2, 0, 2], [0, 0, 0, 0, 0, 0, 0, 1, 2], [2, 0], [2, 2, 2], [2, 2, 0, 0, 2, 2, 2, 2, 2, 2, 2, 2, 2, 0], [2, 0, 0, 0, 2, 2, 0, 0, 1, 0, 0, 0, 0, 0, 0, 0, 0, 0, 0, 0, 0, 1, 2, 0, 2, 0, 2, 2, 2, 2, 2, 2, 2, 2, 2, 2, 0, 0, 0, 2, 1, 0, 2, 2, 2, 0, 0, 1, 0, 2, 2, 2, 2, 0]]
def pm_JL : List Nat := [4, 4, 4, 5, 5, 4]
def pm_JB : List (List Int32) := [[115, 105, 122, 101], [107, 101, 101, 112], [105, 110, 102, 111], [99, 104, 101, 99, 107], [101, 114, 97, 115, 101], [108, 105, 115, 116]]
def pm_LW : List Int64 := [6148914691236517205, 3689348814741910323, 1085102592571150095, 71777214294589695, 281470681808895, 4294967295]
end
section
/-! THE PURE MACHINE: code is a list of instructions with their operands resolved; a heap is a list of shapes (an array's type and length, or 10 + a class and its number of fields) and three functions (ints, longs, references by place and slot). A reference is a place; retAddr k stands for a thing that was there before (a text, a constant array, the script). -/
abbrev PmI : Type := Nat × Nat × Instr × Nat × Nat × Nat × Nat × Int × List Nat
abbrev PmL : Type := List (Option Value)
abbrev PmH : Type := List (Nat × Nat) × (Nat → Nat → Int32) × (Nat → Nat → Int64) × (Nat → Nat → Option Nat)
abbrev PmM : Type := MethodName × ByteArray × Nat × Option FieldType × Nat × Nat × Nat × Nat × (Nat × Nat × Nat × Nat) × List PmI
abbrev PmS : Type := Nat × PmL × List Value × PmH
abbrev PmR : Type := PmS ⊕ (Option Value ⊕ (Nat × List Value × List Value))
abbrev PmX : Type := Nat × (Nat → Int32)
abbrev pi_pc (e : PmI) : Nat := e.1
abbrev pi_n (e : PmI) : Nat := e.2.1
abbrev pi_i (e : PmI) : Instr := e.2.2.1
abbrev pi_a (e : PmI) : Nat := e.2.2.2.1
abbrev pi_c (e : PmI) : Nat := e.2.2.2.2.1
abbrev pi_d (e : PmI) : Nat := e.2.2.2.2.2.1
abbrev pi_q (e : PmI) : Nat := e.2.2.2.2.2.2.1
abbrev pi_v (e : PmI) : Int := e.2.2.2.2.2.2.2.1
abbrev pi_t (e : PmI) : List Nat := e.2.2.2.2.2.2.2.2
abbrev mm_nm (M : PmM) : MethodName := M.1
abbrev mm_by (M : PmM) : ByteArray := M.2.1
abbrev mm_ml (M : PmM) : Nat := M.2.2.1
abbrev mm_rt (M : PmM) : Option FieldType := M.2.2.2.1
abbrev mm_fr (M : PmM) : Nat := M.2.2.2.2.1
abbrev mm_lo (M : PmM) : Nat := M.2.2.2.2.2.1
abbrev mm_kd (M : PmM) : Nat := M.2.2.2.2.2.2.1
abbrev mm_na (M : PmM) : Nat := M.2.2.2.2.2.2.2.1
abbrev mm_pl (M : PmM) : Nat × Nat × Nat × Nat := M.2.2.2.2.2.2.2.2.1
abbrev mm_cd (M : PmM) : List PmI := M.2.2.2.2.2.2.2.2.2
abbrev ph_s (h : PmH) : List (Nat × Nat) := h.1
abbrev ph_i (h : PmH) : Nat → Nat → Int32 := h.2.1
abbrev ph_l (h : PmH) : Nat → Nat → Int64 := h.2.2.1
abbrev ph_r (h : PmH) : Nat → Nat → Option Nat := h.2.2.2
def pm_u2 {α : Type} (f : Nat → Nat → α) (p s : Nat) (v : α) : Nat → Nat → α := fun p' => if p' = p then (fun s' => if s' = s then v else f p s') else f p'
def pm_uf {α : Type} (f : Nat → Nat → α) (p : Nat) (g : Nat → α) : Nat → Nat → α := fun p' => if p' = p then g else f p'
def pm_rv : Option Nat → Value
  | none => .null
  | some q => .ref q
/-- a field's value by its kind: 1 a long, 2 a reference, else an int -/
def pm_fv (h : PmH) (k p s : Nat) : Value := match k with
  | 1 => .long (ph_l h p s)
  | 2 => pm_rv (ph_r h p s)
  | _ => .int (ph_i h p s)
def pm_c2 : Option (Option Value) → Bool
  | some (some (.long _)) => true
  | some (some (.double _)) => true
  | _ => false
def pm_clr (lv : PmL) : Nat → PmL
  | 0 => lv
  | k + 1 => if pm_c2 lv[k]? then lv.set k none else lv
def pm_st1 (lv : PmL) (i : Nat) (v : Value) : PmL := (pm_clr lv i).set i (some v)
def pm_st2 (lv : PmL) (i : Nat) (v : Value) : PmL := ((pm_clr lv i).set i (some v)).set (i + 1) none
def pm_nx (j : Nat) (lv : PmL) (st : List Value) (h : PmH) : Option PmR := some (.inl (j, lv, st, h))
def pm_ii (f : Int32 → Int32 → Int32) (j : Nat) (lv : PmL) (st : List Value) (h : PmH) : Option PmR := match st with
  | .int y :: .int x :: r => pm_nx (j + 1) lv (.int (f x y) :: r) h
  | _ => none
def pm_iz (f : Int32 → Int32 → Int32) (j : Nat) (lv : PmL) (st : List Value) (h : PmH) : Option PmR := match st with
  | .int y :: .int x :: r => if y = 0 then none else pm_nx (j + 1) lv (.int (f x y) :: r) h
  | _ => none
def pm_i1 (f : Int32 → Value) (j : Nat) (lv : PmL) (st : List Value) (h : PmH) : Option PmR := match st with
  | .int x :: r => pm_nx (j + 1) lv (f x :: r) h
  | _ => none
def pm_l1 (f : Int64 → Value) (j : Nat) (lv : PmL) (st : List Value) (h : PmH) : Option PmR := match st with
  | .long x :: r => pm_nx (j + 1) lv (f x :: r) h
  | _ => none
def pm_ll (f : Int64 → Int64 → Value) (j : Nat) (lv : PmL) (st : List Value) (h : PmH) : Option PmR := match st with
  | .long y :: .long x :: r => pm_nx (j + 1) lv (f x y :: r) h
  | _ => none
def pm_lz (f : Int64 → Int64 → Value) (j : Nat) (lv : PmL) (st : List Value) (h : PmH) : Option PmR := match st with
  | .long y :: .long x :: r => if y = 0 then none else pm_nx (j + 1) lv (f x y :: r) h
  | _ => none
def pm_li (f : Int64 → Int32 → Int64) (j : Nat) (lv : PmL) (st : List Value) (h : PmH) : Option PmR := match st with
  | .int y :: .long x :: r => pm_nx (j + 1) lv (.long (f x y) :: r) h
  | _ => none
def pm_ild (i j : Nat) (lv : PmL) (st : List Value) (h : PmH) : Option PmR := match lv[i]? with
  | some (some (.int x)) => pm_nx (j + 1) lv (.int x :: st) h
  | _ => none
def pm_lld (i j : Nat) (lv : PmL) (st : List Value) (h : PmH) : Option PmR := match lv[i]? with
  | some (some (.long x)) => pm_nx (j + 1) lv (.long x :: st) h
  | _ => none
def pm_ald (i j : Nat) (lv : PmL) (st : List Value) (h : PmH) : Option PmR := match lv[i]? with
  | some (some (.ref p)) => pm_nx (j + 1) lv (.ref p :: st) h
  | some (some .null) => pm_nx (j + 1) lv (.null :: st) h
  | some (some (.retAddr k)) => pm_nx (j + 1) lv (.retAddr k :: st) h
  | _ => none
def pm_ist (i j : Nat) (lv : PmL) (st : List Value) (h : PmH) : Option PmR := match st with
  | .int x :: r => pm_nx (j + 1) (pm_st1 lv i (.int x)) r h
  | _ => none
def pm_lst (i j : Nat) (lv : PmL) (st : List Value) (h : PmH) : Option PmR := match st with
  | .long x :: r => pm_nx (j + 1) (pm_st2 lv i (.long x)) r h
  | _ => none
def pm_ast (i j : Nat) (lv : PmL) (st : List Value) (h : PmH) : Option PmR := match st with
  | .ref p :: r => pm_nx (j + 1) (pm_st1 lv i (.ref p)) r h
  | _ => none
def pm_br (c : Jvm.ClassFile.Cond) (x y : Int32) (t f : Option PmR) : Option PmR := match c with
  | .eq => if x = y then t else f
  | .ne => if x = y then f else t
  | .lt => if x < y then t else f
  | .ge => if y ≤ x then t else f
  | .gt => if y < x then t else f
  | .le => if x ≤ y then t else f
/-- how long the things are that were there before: 16 on the texts' bytes, 40 the masks, 41 the script -/
def pm_xl (xs : PmX) (k : Nat) : Option Nat := if k = 41 then some xs.1 else if 16 ≤ k ∧ k < 22 then some (pm_JL.getD (k - 16) 0) else none
def pm_get (e : PmI) (j : Nat) (lv : PmL) (st : List Value) (h : PmH) : Option PmR := match st with
  | .ref p :: r => match (ph_s h)[p]? with
    | some (t, n) => if t = 10 + pi_a e ∧ pi_c e < n then pm_nx (j + 1) lv (pm_fv h (pi_d e) p (pi_c e) :: r) h else none
    | none => none
  | .retAddr k :: r => if pi_a e = 99 ∧ k < 6 then (if pi_c e = 0 then pm_nx (j + 1) lv (.retAddr (16 + k) :: r) h else pm_nx (j + 1) lv (.int 0 :: r) h) else none
  | _ => none
def pm_put (e : PmI) (j : Nat) (lv : PmL) (st : List Value) (h : PmH) : Option PmR := match st with
  | .int x :: .ref p :: r => match (ph_s h)[p]? with
    | some (t, n) => if t = 10 + pi_a e ∧ pi_c e < n ∧ (pi_d e = 0 ∨ (pi_d e = 3 ∧ (x = 0 ∨ x = 1))) then pm_nx (j + 1) lv r (ph_s h, pm_u2 (ph_i h) p (pi_c e) x, ph_l h, ph_r h) else none
    | none => none
  | .long x :: .ref p :: r => match (ph_s h)[p]? with
    | some (t, n) => if t = 10 + pi_a e ∧ pi_c e < n ∧ pi_d e = 1 then pm_nx (j + 1) lv r (ph_s h, ph_i h, pm_u2 (ph_l h) p (pi_c e) x, ph_r h) else none
    | none => none
  | .ref q :: .ref p :: r => match (ph_s h)[p]? with
    | some (t, n) => if t = 10 + pi_a e ∧ pi_c e < n ∧ pi_d e = 2 then pm_nx (j + 1) lv r (ph_s h, ph_i h, ph_l h, pm_u2 (ph_r h) p (pi_c e) (some q)) else none
    | none => none
  | _ => none
def pm_iald (xs : PmX) (j : Nat) (lv : PmL) (st : List Value) (h : PmH) : Option PmR := match st with
  | .int i :: .ref p :: r => match (ph_s h)[p]? with
    | some (0, n) => if i < 0 ∨ n ≤ i.toNatClampNeg then none else pm_nx (j + 1) lv (.int (ph_i h p i.toNatClampNeg) :: r) h
    | _ => none
  | .int i :: .retAddr k :: r => if k = 41 then (if i < 0 ∨ xs.1 ≤ i.toNatClampNeg then none else pm_nx (j + 1) lv (.int (xs.2 i.toNatClampNeg) :: r) h) else none
  | _ => none
def pm_bald (j : Nat) (lv : PmL) (st : List Value) (h : PmH) : Option PmR := match st with
  | .int i :: .ref p :: r => match (ph_s h)[p]? with
    | some (1, n) => if i < 0 ∨ n ≤ i.toNatClampNeg then none else pm_nx (j + 1) lv (.int (ph_i h p i.toNatClampNeg) :: r) h
    | some (2, n) => if i < 0 ∨ n ≤ i.toNatClampNeg then none else pm_nx (j + 1) lv (.int (ph_i h p i.toNatClampNeg) :: r) h
    | _ => none
  | .int i :: .retAddr k :: r => if 16 ≤ k ∧ k < 22 then (if i < 0 ∨ pm_JL.getD (k - 16) 0 ≤ i.toNatClampNeg then none else pm_nx (j + 1) lv (.int ((pm_JB.getD (k - 16) []).getD i.toNatClampNeg 0) :: r) h) else none
  | _ => none
def pm_lald (j : Nat) (lv : PmL) (st : List Value) (h : PmH) : Option PmR := match st with
  | .int i :: .ref p :: r => match (ph_s h)[p]? with
    | some (3, n) => if i < 0 ∨ n ≤ i.toNatClampNeg then none else pm_nx (j + 1) lv (.long (ph_l h p i.toNatClampNeg) :: r) h
    | _ => none
  | .int i :: .retAddr k :: r => if k = 40 then (if i < 0 ∨ 6 ≤ i.toNatClampNeg then none else pm_nx (j + 1) lv (.long (pm_LW.getD i.toNatClampNeg 0) :: r) h) else none
  | _ => none
def pm_aald (j : Nat) (lv : PmL) (st : List Value) (h : PmH) : Option PmR := match st with
  | .int i :: .ref p :: r => match (ph_s h)[p]? with
    | some (4, n) => if i < 0 ∨ n ≤ i.toNatClampNeg then none else pm_nx (j + 1) lv (pm_rv (ph_r h p i.toNatClampNeg) :: r) h
    | _ => none
  | _ => none
def pm_iast (j : Nat) (lv : PmL) (st : List Value) (h : PmH) : Option PmR := match st with
  | .int x :: .int i :: .ref p :: r => match (ph_s h)[p]? with
    | some (0, n) => if i < 0 ∨ n ≤ i.toNatClampNeg then none else pm_nx (j + 1) lv r (ph_s h, pm_u2 (ph_i h) p i.toNatClampNeg x, ph_l h, ph_r h)
    | _ => none
  | _ => none
def pm_bast (j : Nat) (lv : PmL) (st : List Value) (h : PmH) : Option PmR := match st with
  | .int x :: .int i :: .ref p :: r => match (ph_s h)[p]? with
    | some (1, n) => if i < 0 ∨ n ≤ i.toNatClampNeg then none else pm_nx (j + 1) lv r (ph_s h, pm_u2 (ph_i h) p i.toNatClampNeg (vp_nar .boolean x), ph_l h, ph_r h)
    | some (2, n) => if i < 0 ∨ n ≤ i.toNatClampNeg then none else pm_nx (j + 1) lv r (ph_s h, pm_u2 (ph_i h) p i.toNatClampNeg (vp_nar .byte x), ph_l h, ph_r h)
    | _ => none
  | _ => none
def pm_last (j : Nat) (lv : PmL) (st : List Value) (h : PmH) : Option PmR := match st with
  | .long x :: .int i :: .ref p :: r => match (ph_s h)[p]? with
    | some (3, n) => if i < 0 ∨ n ≤ i.toNatClampNeg then none else pm_nx (j + 1) lv r (ph_s h, ph_i h, pm_u2 (ph_l h) p i.toNatClampNeg x, ph_r h)
    | _ => none
  | _ => none
def pm_aast (j : Nat) (lv : PmL) (st : List Value) (h : PmH) : Option PmR := match st with
  | .ref q :: .int i :: .ref p :: r => match (ph_s h)[p]?, (ph_s h)[q]? with
    | some (4, n), some (16, _) => if i < 0 ∨ n ≤ i.toNatClampNeg then none else pm_nx (j + 1) lv r (ph_s h, ph_i h, ph_l h, pm_u2 (ph_r h) p i.toNatClampNeg (some q))
    | _, _ => none
  | _ => none
def pm_len (xs : PmX) (j : Nat) (lv : PmL) (st : List Value) (h : PmH) : Option PmR := match st with
  | .ref p :: r => match (ph_s h)[p]? with
    | some (t, n) => if t < 5 then pm_nx (j + 1) lv (.int (Int32.ofNat n) :: r) h else none
    | none => none
  | .retAddr k :: r => match pm_xl xs k with
    | some n => pm_nx (j + 1) lv (.int (Int32.ofNat n) :: r) h
    | none => none
  | _ => none
def pm_new (e : PmI) (j : Nat) (lv : PmL) (st : List Value) (h : PmH) : Option PmR :=
  pm_nx (j + 1) lv (.ref (ph_s h).length :: st) (ph_s h ++ [(10 + pi_a e, pi_c e)], pm_uf (ph_i h) (ph_s h).length (fun _ => 0), pm_uf (ph_l h) (ph_s h).length (fun _ => 0), pm_uf (ph_r h) (ph_s h).length (fun _ => none))
/-- an array of type d (0 ints, 1 booleans, 2 bytes, 3 longs, 4 states) -/
def pm_nwa (d j : Nat) (lv : PmL) (st : List Value) (h : PmH) : Option PmR := match st with
  | .int n :: r => if n < 0 ∨ 10000 < n.toNatClampNeg then none else pm_nx (j + 1) lv (.ref (ph_s h).length :: r) (ph_s h ++ [(d, n.toNatClampNeg)], pm_uf (ph_i h) (ph_s h).length (fun _ => 0), pm_uf (ph_l h) (ph_s h).length (fun _ => 0), pm_uf (ph_r h) (ph_s h).length (fun _ => none))
  | _ => none
def pm_cpy (j : Nat) (lv : PmL) (st : List Value) (h : PmH) : Option PmR := match st with
  | .int n :: .int dp :: .ref q :: .int sp :: .ref p :: r => match (ph_s h)[p]?, (ph_s h)[q]? with
    | some (0, n0), some (0, n1) => if sp < 0 ∨ dp < 0 ∨ n < 0 ∨ n0 < sp.toNatClampNeg + n.toNatClampNeg ∨ n1 < dp.toNatClampNeg + n.toNatClampNeg ∨ 8 < (r.map fun v => v.category).sum then none else pm_nx (j + 1) lv r (ph_s h, pm_uf (ph_i h) q (va_cpy (ph_i h p) (ph_i h q) sp.toNatClampNeg dp.toNatClampNeg n.toNatClampNeg), ph_l h, ph_r h)
    | _, _ => none
  | _ => none
def pm_sl (as : List Value) : PmL := as.flatMap fun v => if v.category = 2 then [some v, none] else [some v]
/-- a call: the receiver of a virtual one (kind 1) is an object of class pi_d, or a text where pi_d is 99 -/
def pm_call (kd : Nat) (e : PmI) (st : List Value) (h : PmH) : Option PmR :=
  if st.length < pi_c e ∨ 8 < ((st.drop (pi_c e)).map fun v => v.category).sum ∨ (pi_t e).getD 0 0 < (pm_sl (st.take (pi_c e)).reverse).length then none else
  match kd with
  | 0 => some (.inr (.inr (pi_a e, (st.take (pi_c e)).reverse, st.drop (pi_c e))))
  | 1 => match (st.take (pi_c e)).reverse with
    | .ref p :: as => match (ph_s h)[p]? with
      | some (t, _) => if t = 10 + pi_d e then some (.inr (.inr (pi_a e, .ref p :: as, st.drop (pi_c e)))) else none
      | none => none
    | .retAddr k :: as => if pi_d e = 99 ∧ k < 6 then some (.inr (.inr (pi_a e, .retAddr k :: as, st.drop (pi_c e)))) else none
    | _ => none
  | _ => match (st.take (pi_c e)).reverse with
    | .ref p :: as => some (.inr (.inr (pi_a e, .ref p :: as, st.drop (pi_c e))))
    | _ => none
def pm_obj (j : Nat) (lv : PmL) (st : List Value) (h : PmH) : Option PmR := match st with
  | .ref _ :: r => if 8 < (r.map fun v => v.category).sum then none else pm_nx (j + 1) lv r h
  | _ => none
def pm_ret (d : Nat) (st : List Value) : Option PmR := match st with
  | [.int v] => match d with
    | 0 => some (.inr (.inl (some (.int v))))
    | 1 => if v = 0 ∨ v = 1 then some (.inr (.inl (some (.int v)))) else none
    | 2 => if vp_nar .byte v = v then some (.inr (.inl (some (.int v)))) else none
    | _ => if vp_nar .char v = v then some (.inr (.inl (some (.int v)))) else none
  | _ => none
def pm_lret (st : List Value) : Option PmR := match st with
  | [.long v] => some (.inr (.inl (some (.long v))))
  | _ => none
def pm_vret (st : List Value) : Option PmR := match st with
  | [] => some (.inr (.inl none))
  | _ => none
def pm_dup (j : Nat) (lv : PmL) (st : List Value) (h : PmH) : Option PmR := match st with
  | .int x :: r => pm_nx (j + 1) lv (.int x :: .int x :: r) h
  | .ref x :: r => pm_nx (j + 1) lv (.ref x :: .ref x :: r) h
  | _ => none
def pm_dup2 (j : Nat) (lv : PmL) (st : List Value) (h : PmH) : Option PmR := match st with
  | .int x :: .ref y :: r => pm_nx (j + 1) lv (.int x :: .ref y :: .int x :: .ref y :: r) h
  | _ => none
def pm_pop (j : Nat) (lv : PmL) (st : List Value) (h : PmH) : Option PmR := match st with
  | .int _ :: r => pm_nx (j + 1) lv r h
  | _ => none
def pm_inc (i : Nat) (n : Int) (j : Nat) (lv : PmL) (st : List Value) (h : PmH) : Option PmR := match lv[i]? with
  | some (some (.int x)) => pm_nx (j + 1) (pm_st1 lv i (.int (x + Int32.ofInt n))) st h
  | _ => none
def pm_tsw (lo hi : Int) (e : PmI) (lv : PmL) (st : List Value) (h : PmH) : Option PmR := match st with
  | .int x :: r => if x.toInt < lo ∨ hi < x.toInt then pm_nx (pi_a e) lv r h else match (pi_t e)[(x.toInt - lo).toNat]? with
    | some t => pm_nx t lv r h
    | none => none
  | _ => none
def pm_lsw (ps : List (Int × Int)) (e : PmI) (lv : PmL) (st : List Value) (h : PmH) : Option PmR := match st with
  | .int x :: r => match (ps.zip (pi_t e)).find? (fun q => q.1.1 == x.toInt) with
    | some q => pm_nx q.2 lv r h
    | none => pm_nx (pi_a e) lv r h
  | _ => none
def pm_if (c : Jvm.ClassFile.Cond) (a j : Nat) (lv : PmL) (st : List Value) (h : PmH) : Option PmR := match st with
  | .int x :: r => pm_br c x 0 (pm_nx a lv r h) (pm_nx (j + 1) lv r h)
  | _ => none
def pm_ic (c : Jvm.ClassFile.Cond) (a j : Nat) (lv : PmL) (st : List Value) (h : PmH) : Option PmR := match st with
  | .int y :: .int x :: r => pm_br c x y (pm_nx a lv r h) (pm_nx (j + 1) lv r h)
  | _ => none
def pm_gs (e : PmI) (j : Nat) (lv : PmL) (st : List Value) (h : PmH) : Option PmR := match pi_d e with
  | 0 => pm_nx (j + 1) lv (.int (Int32.ofInt (pi_v e)) :: st) h
  | _ => pm_nx (j + 1) lv (.retAddr (pi_a e) :: st) h
/-- one instruction -/
def pm_x (xs : PmX) (e : PmI) (j : Nat) (lv : PmL) (st : List Value) (h : PmH) : Option PmR := match pi_i e with
  | .iconst n => pm_nx (j + 1) lv (.int (Int32.ofInt n) :: st) h
  | .bipush n => pm_nx (j + 1) lv (.int (Int8.ofInt n).toInt32 :: st) h
  | .sipush n => pm_nx (j + 1) lv (.int (Int16.ofInt n).toInt32 :: st) h
  | .lconst n => pm_nx (j + 1) lv (.long (Int64.ofNat n) :: st) h
  | .ldc _ => (match pi_d e with
    | 0 => pm_nx (j + 1) lv (.int (Int32.ofInt (pi_v e)) :: st) h
    | _ => pm_nx (j + 1) lv (.retAddr (pi_a e) :: st) h)
  | .ldc_w _ => pm_nx (j + 1) lv (.int (Int32.ofInt (pi_v e)) :: st) h
  | .ldc2_w _ => pm_nx (j + 1) lv (.long (Int64.ofInt (pi_v e)) :: st) h
  | .iload i => pm_ild i j lv st h
  | .iload_n i => pm_ild i j lv st h
  | .lload i => pm_lld i j lv st h
  | .lload_n i => pm_lld i j lv st h
  | .aload i => pm_ald i j lv st h
  | .aload_n i => pm_ald i j lv st h
  | .istore i => pm_ist i j lv st h
  | .istore_n i => pm_ist i j lv st h
  | .lstore i => pm_lst i j lv st h
  | .lstore_n i => pm_lst i j lv st h
  | .astore_n i => pm_ast i j lv st h
  | .iinc i n => pm_inc i n j lv st h
  | .iadd => pm_ii (fun x y => x + y) j lv st h
  | .isub => pm_ii (fun x y => x - y) j lv st h
  | .imul => pm_ii (fun x y => x * y) j lv st h
  | .idiv => pm_iz (fun x y => x / y) j lv st h
  | .irem => pm_iz (fun x y => x - x / y * y) j lv st h
  | .ineg => pm_i1 (fun x => .int (-x)) j lv st h
  | .ishl => pm_ii (fun x y => x <<< (y &&& 31)) j lv st h
  | .ishr => pm_ii (fun x y => x >>> (y &&& 31)) j lv st h
  | .iushr => pm_ii (fun x y => (x.toUInt32 >>> (y.toUInt32 &&& Int32.toUInt32 31)).toInt32) j lv st h
  | .iand => pm_ii (fun x y => x &&& y) j lv st h
  | .ior => pm_ii (fun x y => x ||| y) j lv st h
  | .ixor => pm_ii (fun x y => x ^^^ y) j lv st h
  | .ladd => pm_ll (fun x y => .long (x + y)) j lv st h
  | .lsub => pm_ll (fun x y => .long (x - y)) j lv st h
  | .lmul => pm_ll (fun x y => .long (x * y)) j lv st h
  | .ldiv => pm_lz (fun x y => .long (x / y)) j lv st h
  | .lrem => pm_lz (fun x y => .long (x - x / y * y)) j lv st h
  | .lneg => pm_l1 (fun x => .long (-x)) j lv st h
  | .land => pm_ll (fun x y => .long (x &&& y)) j lv st h
  | .lor => pm_ll (fun x y => .long (x ||| y)) j lv st h
  | .lxor => pm_ll (fun x y => .long (x ^^^ y)) j lv st h
  | .lcmp => pm_ll (fun x y => .int (lg_cmp x y)) j lv st h
  | .lshl => pm_li (fun x y => x <<< (y.toInt64 &&& 63)) j lv st h
  | .lshr => pm_li (fun x y => x >>> (y.toInt64 &&& 63)) j lv st h
  | .lushr => pm_li (fun x y => (x.toUInt64 >>> (y.toInt64.toUInt64 &&& Int64.toUInt64 63)).toInt64) j lv st h
  | .i2l => pm_i1 (fun x => .long x.toInt64) j lv st h
  | .l2i => pm_l1 (fun x => .int x.toInt32) j lv st h
  | .i2b => pm_i1 (fun x => .int x.toInt8.toInt32) j lv st h
  | .i2c => pm_i1 (fun x => .int (x.toUInt32 % 65536).toInt32) j lv st h
  | .dup => pm_dup j lv st h
  | .dup2 => pm_dup2 j lv st h
  | .pop => pm_pop j lv st h
  | .goto _ => pm_nx (pi_a e) lv st h
  | .ifCond c _ => pm_if c (pi_a e) j lv st h
  | .if_icmp c _ => pm_ic c (pi_a e) j lv st h
  | .tableswitch _ lo hi _ => pm_tsw lo hi e lv st h
  | .lookupswitch _ ps => pm_lsw ps.toList e lv st h
  | .getstatic _ => pm_gs e j lv st h
  | .getfield _ => pm_get e j lv st h
  | .putfield _ => pm_put e j lv st h
  | .iaload => pm_iald xs j lv st h
  | .baload => pm_bald j lv st h
  | .laload => pm_lald j lv st h
  | .aaload => pm_aald j lv st h
  | .iastore => pm_iast j lv st h
  | .bastore => pm_bast j lv st h
  | .lastore => pm_last j lv st h
  | .aastore => pm_aast j lv st h
  | .arraylength => pm_len xs j lv st h
  | .new _ => pm_new e j lv st h
  | .newarray _ => pm_nwa (pi_d e) j lv st h
  | .anewarray _ => pm_nwa 4 j lv st h
  | .invokestatic _ => (match pi_d e with
    | 7 => pm_cpy j lv st h
    | _ => pm_call 0 e st h)
  | .invokevirtual _ => pm_call 1 e st h
  | .invokespecial _ => (match pi_d e with
    | 6 => pm_obj j lv st h
    | _ => pm_call 2 e st h)
  | .ireturn => pm_ret (pi_d e) st
  | .lreturn => pm_lret st
  | .return_ => pm_vret st
  | _ => none
def pm_cd (T : List PmM) (y : Nat) : List PmI := match T[y]? with
  | some M => mm_cd M
  | none => []
def pm_ml (T : List PmM) (y : Nat) : Nat := match T[y]? with
  | some M => mm_ml M
  | none => 0
def pm_en (n : Nat) (as : List Value) : PmL := pm_sl as ++ List.replicate (n - (pm_sl as).length) none
def pm_run (T : List PmM) (xs : PmX) : Nat → List PmI → Nat → PmL → List Value → PmH → Option (Option Value × PmH)
  | 0, _, _, _, _, _ => none
  | f + 1, es, j, lv, st, h => match es[j]? with
    | none => none
    | some e => match pm_x xs e j lv st h with
      | none => none
      | some (.inl (j', lv', st', h')) => pm_run T xs f es j' lv' st' h'
      | some (.inr (.inl v)) => some (v, h)
      | some (.inr (.inr (y, as, st'))) => match pm_run T xs f (pm_cd T y) 0 (pm_en (pm_ml T y) as) [] h with
        | none => none
        | some (v, h') => pm_run T xs f es (j + 1) lv (v.toList ++ st') h'
/-- it runs to an end -/
def Go (T : List PmM) (xs : PmX) (es : List PmI) (j : Nat) (lv : PmL) (st : List Value) (h : PmH) (r : Option Value × PmH) : Prop := ∃ f, pm_run T xs f es j lv st h = some r
/-- a method's call comes back -/
def Ev (T : List PmM) (xs : PmX) (y : Nat) (as : List Value) (h : PmH) (v : Option Value) (h' : PmH) : Prop := Go T xs (pm_cd T y) 0 (pm_en (pm_ml T y) as) [] h (v, h')
theorem pm_mono {T : List PmM} {xs : PmX} : ∀ (f : Nat) {es : List PmI} {j : Nat} {lv : PmL} {st : List Value} {h : PmH} {r : Option Value × PmH}, pm_run T xs f es j lv st h = some r → pm_run T xs (f + 1) es j lv st h = some r := by
  intro f
  induction f with
  | zero => intro es j lv st h r hr; simp [pm_run] at hr
  | succ f ih =>
    intro es j lv st h r hr
    rw [pm_run] at hr
    rw [pm_run]
    cases he : es[j]? with
    | none => rw [he] at hr; simp at hr
    | some e =>
      rw [he] at hr
      simp only at hr ⊢
      cases hx : pm_x xs e j lv st h with
      | none => rw [hx] at hr; simp at hr
      | some z =>
        rw [hx] at hr
        rcases z with ⟨j', lv', st', h'⟩ | v | ⟨y, as, st'⟩
        · simp only at hr ⊢
          exact ih hr
        · simp only at hr ⊢
          exact hr
        · simp only at hr ⊢
          cases hc : pm_run T xs f (pm_cd T y) 0 (pm_en (pm_ml T y) as) [] h with
          | none => rw [hc] at hr; simp at hr
          | some w =>
            rw [hc] at hr
            rw [ih hc]
            exact ih hr
theorem pm_more {T : List PmM} {xs : PmX} {f : Nat} (g : Nat) {es : List PmI} {j : Nat} {lv : PmL} {st : List Value} {h : PmH} {r : Option Value × PmH} (hr : pm_run T xs f es j lv st h = some r) : pm_run T xs (f + g) es j lv st h = some r := by
  induction g with
  | zero => exact hr
  | succ g ih => exact pm_mono (f + g) ih
section PMGO
variable {T : List PmM} {xs : PmX} {es : List PmI} {j : Nat} {lv : PmL} {st : List Value} {h : PmH} {r : Option Value × PmH}
theorem Go.step {e : PmI} {j' : Nat} {lv' : PmL} {st' : List Value} {h' : PmH} (he : es[j]? = some e) (hx : pm_x xs e j lv st h = some (.inl (j', lv', st', h'))) (k : Go T xs es j' lv' st' h' r) : Go T xs es j lv st h r := by
  obtain ⟨f, hf⟩ := k
  exact ⟨f + 1, by rw [pm_run, he]; simp only; rw [hx]; exact hf⟩
theorem Go.ret {e : PmI} {v : Option Value} (he : es[j]? = some e) (hx : pm_x xs e j lv st h = some (.inr (.inl v))) : Go T xs es j lv st h (v, h) :=
  ⟨1, by rw [pm_run, he]; simp only; rw [hx]⟩
theorem Go.call {e : PmI} {y : Nat} {as st' : List Value} {v : Option Value} {h' : PmH} (he : es[j]? = some e) (hx : pm_x xs e j lv st h = some (.inr (.inr (y, as, st')))) (hc : Ev T xs y as h v h') (k : Go T xs es (j + 1) lv (v.toList ++ st') h' r) : Go T xs es j lv st h r := by
  obtain ⟨f, hf⟩ := hc
  obtain ⟨g, hg⟩ := k
  refine ⟨f + g + 1, ?_⟩
  rw [pm_run, he]
  simp only
  rw [hx]
  simp only
  rw [pm_more g hf]
  simp only
  rw [Nat.add_comm f g]
  exact pm_more f hg
end PMGO
/-- several local instructions at once -/
def pm_ns (xs : PmX) (es : List PmI) : Nat → PmS → Option PmS
  | 0, z => some z
  | n + 1, (j, lv, st, h) => match es[j]? with
    | none => none
    | some e => match pm_x xs e j lv st h with
      | some (.inl z) => pm_ns xs es n z
      | _ => none
theorem Go.ns {T : List PmM} {xs : PmX} {es : List PmI} {r : Option Value × PmH} : ∀ (n : Nat) {z z' : PmS}, pm_ns xs es n z = some z' → Go T xs es z'.1 z'.2.1 z'.2.2.1 z'.2.2.2 r → Go T xs es z.1 z.2.1 z.2.2.1 z.2.2.2 r := by
  intro n
  induction n with
  | zero =>
    intro z z' hz k
    rw [pm_ns] at hz
    cases hz
    exact k
  | succ n ih =>
    intro z z' hz k
    obtain ⟨j, lv, st, h⟩ := z
    rw [pm_ns] at hz
    cases he : es[j]? with
    | none => rw [he] at hz; simp at hz
    | some e =>
      rw [he] at hz
      simp only at hz
      cases hx : pm_x xs e j lv st h with
      | none => rw [hx] at hz; simp at hz
      | some w =>
        rw [hx] at hz
        rcases w with ⟨j', lv', st', h'⟩ | v | ⟨y, as, st'⟩
        · simp only at hz
          exact Go.step he hx (ih hz k)
        · simp at hz
        · simp at hz
end
section
/-! FROM THE PURE MACHINE TO THE JVM: how a pure heap lies in a real one -/
def pm_v (b : Nat) (x : Nat → Value) : Value → Value
  | .ref k => .ref (b + k)
  | .retAddr k => x k
  | v => v
def pm_ro (b : Nat) (r : Option Nat) : Option Nat := r.map (fun k => b + k)
theorem pm_v_rv (b : Nat) (x : Nat → Value) (r : Option Nat) : pm_v b x (pm_rv r) = va_rf (pm_ro b r) := by cases r <;> rfl
def pm_k (c s : Nat) : Nat := (pm_KD.getD c []).getD s 0
def pm_fs (b : Nat) (x : Nat → Value) (h : PmH) (p c n : Nat) : List Value := (List.range n).map fun s => pm_v b x (pm_fv h (pm_k c s) p s)
def pm_e (b : Nat) (x : Nat → Value) (ta : Nat → ClassId) (h : PmH) (p : Nat) (q : Nat × Nat) : va_E := match q.1 with
  | 0 => .inl (ta 0, q.2, .inl (ph_i h p))
  | 1 => .inl (ta 1, q.2, .inl (ph_i h p))
  | 2 => .inl (ta 2, q.2, .inl (ph_i h p))
  | 3 => .inl (ta 3, q.2, .inr (.inl (ph_l h p)))
  | 4 => .inl (ta 4, q.2, .inr (.inr (.inr (.inr (fun j => pm_ro b (ph_r h p j))))))
  | k + 5 => .inr (k - 5, pm_fs b x h p (k - 5) q.2)
def pm_w (b : Nat) (x : Nat → Value) (ta : Nat → ClassId) (h : PmH) : va_W := (ph_s h).mapIdx fun p q => (b + p, pm_e b x ta h p q)
theorem pm_w_at (b : Nat) (x : Nat → Value) (ta : Nat → ClassId) (h : PmH) (p : Nat) : (pm_w b x ta h)[p]? = ((ph_s h)[p]?).map (fun q => (b + p, pm_e b x ta h p q)) := by
  simp [pm_w]
theorem pm_w_to {b : Nat} {x : Nat → Value} {ta : Nat → ClassId} {h : PmH} {p : Nat} {q : Nat × Nat} {e : va_E} (hq : (ph_s h)[p]? = some q) (he : pm_e b x ta h p q = e) : (pm_w b x ta h)[p]? = some (b + p, e) := by
  rw [pm_w_at, hq]
  simp [he]
theorem pm_e_obj (b : Nat) (x : Nat → Value) (ta : Nat → ClassId) (h : PmH) (p c n : Nat) : pm_e b x ta h p (10 + c, n) = .inr (c, pm_fs b x h p c n) := by
  rw [show (10 + c : Nat) = (c + 5) + 5 by omega]
  simp [pm_e]
theorem pm_D (b : Nat) (x : Nat → Value) (ta : Nat → ClassId) (h : PmH) : va_D (fun q => b ≤ q) (pm_w b x ta h) := by
  refine ⟨fun i j p q hi hj hpq => ?_, fun k q hk => ?_⟩
  · rw [pm_w_at] at hi hj
    cases h1 : (ph_s h)[i]? with
    | none => rw [h1] at hi; cases hi
    | some u =>
      cases h2 : (ph_s h)[j]? with
      | none => rw [h2] at hj; cases hj
      | some w =>
        rw [h1] at hi
        rw [h2] at hj
        cases hi
        cases hj
        simp at hpq
        exact hpq
  · rw [pm_w_at] at hk
    cases h1 : (ph_s h)[k]? with
    | none => rw [h1] at hk; cases hk
    | some u =>
      rw [h1] at hk
      cases hk
      show b ≤ b + k
      omega
/-- a change at one place: the world as a list changes there alone -/
theorem pm_w_set {b : Nat} {x : Nat → Value} {ta : Nat → ClassId} {h h' : PmH} {p : Nat} {q : Nat × Nat} {e : va_E} (hs : ph_s h' = ph_s h) (hq : (ph_s h)[p]? = some q) (he : pm_e b x ta h' p q = e)
    (ho : ∀ p' q', p' ≠ p → pm_e b x ta h' p' q' = pm_e b x ta h p' q') : (pm_w b x ta h).set p (b + p, e) = pm_w b x ta h' := by
  apply List.ext_getElem?
  intro k
  rw [pm_w_at, hs]
  by_cases hk : p = k
  · subst hk
    rw [List.getElem?_set_self' , pm_w_at, hq]
    simp [he]
  · rw [List.getElem?_set_ne hk, pm_w_at]
    cases h1 : (ph_s h)[k]? with
    | none => rfl
    | some u => simp [ho k u (fun z => hk z.symm)]
theorem pm_w_push {b : Nat} {x : Nat → Value} {ta : Nat → ClassId} {h h' : PmH} {q : Nat × Nat} {e : va_E} (hs : ph_s h' = ph_s h ++ [q]) (he : pm_e b x ta h' (ph_s h).length q = e)
    (ho : ∀ p' q', p' < (ph_s h).length → pm_e b x ta h' p' q' = pm_e b x ta h p' q') : pm_w b x ta h ++ [(b + (ph_s h).length, e)] = pm_w b x ta h' := by
  apply List.ext_getElem?
  intro k
  have hl : (pm_w b x ta h).length = (ph_s h).length := by simp [pm_w]
  rw [pm_w_at, hs]
  rcases Nat.lt_trichotomy k (ph_s h).length with hk | hk | hk
  · rw [List.getElem?_append_left (by omega), List.getElem?_append_left hk, pm_w_at]
    cases h1 : (ph_s h)[k]? with
    | none => rfl
    | some u => simp [ho k u hk]
  · subst hk
    rw [List.getElem?_append_right (by omega), List.getElem?_append_right (Nat.le_refl _), hl]
    simp [he]
  · rw [List.getElem?_append_right (by omega), List.getElem?_append_right (by omega), hl]
    rw [List.getElem?_eq_none (by simp; omega), List.getElem?_eq_none (by simp; omega)]
    rfl
theorem pm_e_i {b : Nat} {x : Nat → Value} {ta : Nat → ClassId} {h : PmH} {f : Nat → Nat → Int32} {p' : Nat} (q' : Nat × Nat) (hf : f p' = ph_i h p') : pm_e b x ta (ph_s h, f, ph_l h, ph_r h) p' q' = pm_e b x ta h p' q' := by
  obtain ⟨t, n⟩ := q'
  simp only [ph_i, ph_l, ph_r] at hf
  rcases t with _ | _ | _ | _ | _ | t <;> simp [pm_e, pm_fs, pm_fv, ph_i, ph_l, ph_r, hf]
theorem pm_e_l {b : Nat} {x : Nat → Value} {ta : Nat → ClassId} {h : PmH} {f : Nat → Nat → Int64} {p' : Nat} (q' : Nat × Nat) (hf : f p' = ph_l h p') : pm_e b x ta (ph_s h, ph_i h, f, ph_r h) p' q' = pm_e b x ta h p' q' := by
  obtain ⟨t, n⟩ := q'
  simp only [ph_i, ph_l, ph_r] at hf
  rcases t with _ | _ | _ | _ | _ | t <;> simp [pm_e, pm_fs, pm_fv, ph_i, ph_l, ph_r, hf]
theorem pm_e_r {b : Nat} {x : Nat → Value} {ta : Nat → ClassId} {h : PmH} {f : Nat → Nat → Option Nat} {p' : Nat} (q' : Nat × Nat) (hf : f p' = ph_r h p') : pm_e b x ta (ph_s h, ph_i h, ph_l h, f) p' q' = pm_e b x ta h p' q' := by
  obtain ⟨t, n⟩ := q'
  simp only [ph_i, ph_l, ph_r] at hf
  rcases t with _ | _ | _ | _ | _ | t <;> simp [pm_e, pm_fs, pm_fv, ph_i, ph_l, ph_r, hf]
theorem pm_u2_ne {α : Type} {f : Nat → Nat → α} {p s p' : Nat} {v : α} (hp : p' ≠ p) : pm_u2 f p s v p' = f p' := by simp [pm_u2, hp]
theorem pm_uf_ne {α : Type} {f : Nat → Nat → α} {p p' : Nat} {g : Nat → α} (hp : p' ≠ p) : pm_uf f p g p' = f p' := by simp [pm_uf, hp]
theorem pm_u2_eq {α : Type} {f : Nat → Nat → α} {p s : Nat} {v : α} : pm_u2 f p s v p = (fun s' => if s' = s then v else f p s') := by simp [pm_u2]
theorem pm_uf_eq {α : Type} {f : Nat → Nat → α} {p : Nat} {g : Nat → α} : pm_uf f p g p = g := by simp [pm_uf]
theorem pm_fs_at {b : Nat} {x : Nat → Value} {h : PmH} {p c n s : Nat} (hs : s < n) : (pm_fs b x h p c n)[s]? = some (pm_v b x (pm_fv h (pm_k c s) p s)) := by
  simp [pm_fs, hs]
theorem pm_fs_len {b : Nat} {x : Nat → Value} {h : PmH} {p c n : Nat} : (pm_fs b x h p c n).length = n := by simp [pm_fs]
/-- a field is written: the list of fields changes there alone -/
theorem pm_fs_set {b : Nat} {x : Nat → Value} {h h' : PmH} {p c n s : Nat} {v : Value} (hs : s < n) (he : pm_v b x (pm_fv h' (pm_k c s) p s) = v) (ho : ∀ s', s' ≠ s → pm_fv h' (pm_k c s') p s' = pm_fv h (pm_k c s') p s') : (pm_fs b x h p c n).set s v = pm_fs b x h' p c n := by
  apply List.ext_getElem?
  intro k
  by_cases hk : s = k
  · subst hk
    rw [List.getElem?_set_self (by rw [pm_fs_len]; exact hs), pm_fs_at hs, he]
  · rw [List.getElem?_set_ne hk]
    by_cases hn : k < n
    · rw [pm_fs_at hn, pm_fs_at hn, ho k (fun z => hk z.symm)]
    · rw [List.getElem?_eq_none (by rw [pm_fs_len]; omega), List.getElem?_eq_none (by rw [pm_fs_len]; omega)]
/-- locals -/
def pm_as (b : Nat) (x : Nat → Value) (lv : PmL) : List (Nat × Value) := (lv.mapIdx (fun i o => (i, o))).filterMap (fun q => q.2.map (fun v => (q.1, pm_v b x v)))
theorem pm_as_mem {b : Nat} {x : Nat → Value} {lv : PmL} {i : Nat} {w : Value} : (i, w) ∈ pm_as b x lv ↔ ∃ v, lv[i]? = some (some v) ∧ w = pm_v b x v := by
  simp only [pm_as, List.mem_filterMap, List.mem_mapIdx]
  constructor
  · rintro ⟨⟨k, o⟩, ⟨k', hk', hq⟩, hw⟩
    cases hq
    cases ho : lv[k] with
    | none => simp [ho] at hw
    | some v =>
      simp [ho] at hw
      obtain ⟨rfl, rfl⟩ := hw
      exact ⟨v, by rw [List.getElem?_eq_getElem hk', ho], rfl⟩
  · rintro ⟨v, hv, rfl⟩
    have hl := (List.getElem?_eq_some_iff.mp hv).1
    have he := (List.getElem?_eq_some_iff.mp hv).2
    exact ⟨(i, some v), ⟨i, hl, by rw [he]⟩, rfl⟩
def pm_lv (b : Nat) (x : Nat → Value) (nL : Nat) (lv : PmL) (ls : Array Slot) : Prop := lv_has ls nL (pm_as b x lv)
theorem pm_lv_at {b : Nat} {x : Nat → Value} {nL : Nat} {lv : PmL} {ls : Array Slot} (h : pm_lv b x nL lv ls) {i : Nat} {v : Value} (hv : lv[i]? = some (some v)) : ls[i]? = some (.val (pm_v b x v)) :=
  h.2.2 (i, pm_v b x v) (pm_as_mem.mpr ⟨v, hv, rfl⟩)
theorem pm_clr_at {lv : PmL} {i k : Nat} {w : Value} (h : (pm_clr lv i)[k]? = some (some w)) : lv[k]? = some (some w) ∧ (k + 1 = i → ¬ w.category = 2) := by
  cases i with
  | zero => exact ⟨h, fun z => by omega⟩
  | succ n =>
    replace h : (if pm_c2 lv[n]? then lv.set n none else lv)[k]? = some (some w) := h
    by_cases hc : pm_c2 lv[n]? = true
    · rw [if_pos hc] at h
      by_cases hk : n = k
      · subst hk
        rw [List.getElem?_set_self'] at h
        cases hq : lv[n]? with
        | none => rw [hq] at h; simp at h
        | some o => rw [hq] at h; simp at h
      · rw [List.getElem?_set_ne hk] at h
        exact ⟨h, fun z => by omega⟩
    · rw [if_neg hc] at h
      refine ⟨h, fun z z2 => hc ?_⟩
      have hk : k = n := by omega
      subst hk
      rw [h]
      cases w <;> simp [Value.category] at z2 <;> rfl
theorem pm_v_cat {b : Nat} {x : Nat → Value} (hx : ∀ k, (x k).category = 1) (v : Value) : (pm_v b x v).category = v.category := by
  cases v <;> first | rfl | exact hx _
theorem pm_lv_st1 {b : Nat} {x : Nat → Value} (hx : ∀ k, (x k).category = 1) {nL : Nat} {lv : PmL} {ls : Array Slot} {i : Nat} {v : Value}
    (h : lv_has ls nL ((i, pm_v b x v) :: (pm_as b x lv).filter (fun q => !(q.1 == i) && !(q.1 + 1 == i && q.2.category == 2)))) : pm_lv b x nL (pm_st1 lv i v) ls := by
  refine ⟨h.1, h.2.1, fun q hq => h.2.2 q ?_⟩
  obtain ⟨k, w⟩ := q
  obtain ⟨u, hu, rfl⟩ := pm_as_mem.mp hq
  unfold pm_st1 at hu
  by_cases hk : i = k
  · subst hk
    rw [List.getElem?_set_self'] at hu
    cases ho : (pm_clr lv i)[i]? with
    | none => rw [ho] at hu; simp at hu
    | some o => rw [ho] at hu; simp at hu; rw [hu]; exact List.mem_cons_self
  · rw [List.getElem?_set_ne hk] at hu
    obtain ⟨h1, h2⟩ := pm_clr_at hu
    refine List.mem_cons_of_mem _ (List.mem_filter.mpr ⟨pm_as_mem.mpr ⟨u, h1, rfl⟩, ?_⟩)
    simp only [Bool.and_eq_true, Bool.not_eq_true', beq_eq_false_iff_ne, Bool.and_eq_false_imp, beq_iff_eq, pm_v_cat hx]
    exact ⟨fun z => hk z.symm, h2⟩
theorem pm_lv_st2 {b : Nat} {x : Nat → Value} (hx : ∀ k, (x k).category = 1) {nL : Nat} {lv : PmL} {ls : Array Slot} {i : Nat} {v : Value}
    (h : lv_has ls nL ((i, pm_v b x v) :: (pm_as b x lv).filter (fun q => !(q.1 == i) && (!(q.1 == i + 1) && !(q.1 + 1 == i && q.2.category == 2))))) : pm_lv b x nL (pm_st2 lv i v) ls := by
  refine ⟨h.1, h.2.1, fun q hq => h.2.2 q ?_⟩
  obtain ⟨k, w⟩ := q
  obtain ⟨u, hu, rfl⟩ := pm_as_mem.mp hq
  unfold pm_st2 at hu
  by_cases hk2 : i + 1 = k
  · subst hk2
    rw [List.getElem?_set_self'] at hu
    cases ho : ((pm_clr lv i).set i (some v))[i + 1]? with
    | none => rw [ho] at hu; simp at hu
    | some o => rw [ho] at hu; simp at hu
  rw [List.getElem?_set_ne hk2] at hu
  by_cases hk : i = k
  · subst hk
    rw [List.getElem?_set_self'] at hu
    cases ho : (pm_clr lv i)[i]? with
    | none => rw [ho] at hu; simp at hu
    | some o => rw [ho] at hu; simp at hu; rw [hu]; exact List.mem_cons_self
  · rw [List.getElem?_set_ne hk] at hu
    obtain ⟨h1, h2⟩ := pm_clr_at hu
    refine List.mem_cons_of_mem _ (List.mem_filter.mpr ⟨pm_as_mem.mpr ⟨u, h1, rfl⟩, ?_⟩)
    simp only [Bool.and_eq_true, Bool.not_eq_true', beq_eq_false_iff_ne, Bool.and_eq_false_imp, beq_iff_eq, pm_v_cat hx]
    exact ⟨fun z => hk z.symm, fun z => hk2 z.symm, h2⟩
/-- a method's entry -/
theorem pm_sl_args {b : Nat} {x : Nat → Value} (hx : ∀ k, (x k).category = 1) : ∀ (as : List Value) (i k : Nat) (v : Value), (pm_sl as)[k]? = some (some v) → (i + k, pm_v b x v) ∈ lv_args i (as.map (pm_v b x)) := by
  intro as
  induction as with
  | nil => intro i k v h; simp [pm_sl] at h
  | cons a as ih =>
    intro i k v h
    have e : pm_sl (a :: as) = (if a.category = 2 then [some a, none] else [some a]) ++ pm_sl as := by simp [pm_sl]
    rw [e] at h
    rw [List.map_cons, lv_args, pm_v_cat hx]
    by_cases hc : a.category = 2
    · rw [if_pos hc] at h
      rw [if_pos hc]
      rcases k with _ | _ | k
      · simp at h; subst h; exact List.mem_cons_self
      · simp at h
      · refine List.mem_cons_of_mem _ ?_
        have h2 := ih (i + 2) k v (by simpa using h)
        rw [show i + (k + 1 + 1) = i + 2 + k by omega]
        exact h2
    · rw [if_neg hc] at h
      rw [if_neg hc]
      rcases k with _ | k
      · simp at h; subst h; exact List.mem_cons_self
      · refine List.mem_cons_of_mem _ ?_
        have h2 := ih (i + 1) k v (by simpa using h)
        rw [show i + (k + 1) = i + 1 + k by omega]
        exact h2
theorem pm_sl_len {b : Nat} {x : Nat → Value} (hx : ∀ k, (x k).category = 1) : ∀ as : List Value, (lg_sl (as.map (pm_v b x))).length = (pm_sl as).length := by
  intro as
  induction as with
  | nil => rfl
  | cons a as ih =>
    simp only [lg_sl, pm_sl, List.map_cons, List.flatMap_cons, List.length_append, pm_v_cat hx] at ih ⊢
    rw [ih]
    by_cases hc : a.category = 2 <;> simp [hc]
theorem pm_lv_en {b : Nat} {x : Nat → Value} (hx : ∀ k, (x k).category = 1) {as : List Value} {n : Nat} (hn : (pm_sl as).length ≤ n) :
    pm_lv b x n (pm_en n as) ((lg_sl (as.map (pm_v b x)) ++ List.replicate (n - (lg_sl (as.map (pm_v b x))).length) Slot.unset).toArray) := by
  have h := lv_entry (as.map (pm_v b x)) (n := n) (by rw [pm_sl_len hx]; exact hn)
  refine ⟨h.1, h.2.1, fun q hq => h.2.2 q ?_⟩
  obtain ⟨k, w⟩ := q
  obtain ⟨u, hu, rfl⟩ := pm_as_mem.mp hq
  unfold pm_en at hu
  by_cases hk : k < (pm_sl as).length
  · rw [List.getElem?_append_left hk] at hu
    have := pm_sl_args (b := b) hx as 0 k u hu
    rwa [Nat.zero_add] at this
  · rw [List.getElem?_append_right (by omega), List.getElem?_replicate] at hu
    split at hu <;> simp at hu
/-- how many slots a heap takes -/
def pm_sz (h : PmH) : Nat := ((ph_s h).map (fun q => q.2)).sum
end
section
/-! WHAT IS CHECKED OF A METHOD's CODE, by program -/
def pm_pc (es : List PmI) (j : Nat) : Nat := match es[j]? with
  | some e => pi_pc e
  | none => 0
def pm_ws : List Cond := lw_tbl.filter goodWord
def pm_has (q : Nat) (w : Cond) : Bool := goodWord w && decide (lw_tbl[q]? = some w)
theorem pm_has_in {q : Nat} {w : Cond} (h : pm_has q w = true) : w ∈ pm_ws := by
  simp only [pm_has, Bool.and_eq_true, decide_eq_true_eq] at h
  exact List.mem_filter.mpr ⟨List.mem_of_getElem? h.2, h.1⟩
theorem pm_ws_good : GoodIn pm_ws pm_ws := fun w h => ⟨h, good_of_word (List.mem_filter.mp h).2⟩
def pm_nl : List Cond := lw_tbl.filter (fun w => match w with | .methodLinkNest _ _ _ _ => true | _ => false)
def pm_SI : List Nat := [109, 118, 120, 122, 124, 125]
def pm_ST : List String := ["size", "keep", "info", "check", "erase", "list"]
/-- how long an instruction is -/
def pm_ln : Instr → Nat
  | .bipush _ | .ldc _ | .iload _ | .lload _ | .aload _ | .istore _ | .lstore _ | .astore _ | .newarray _ => 2
  | .sipush _ | .ldc_w _ | .ldc2_w _ | .iinc _ _ | .goto _ | .ifCond _ _ | .if_icmp _ _ | .getstatic _ | .getfield _ | .putfield _ | .invokevirtual _ | .invokespecial _ | .invokestatic _ | .new _ | .anewarray _ => 3
  | _ => 1
def pm_sw : Instr → Bool
  | .tableswitch _ _ _ _ | .lookupswitch _ _ => true
  | _ => false
def pm_end : Instr → Bool
  | .tableswitch _ _ _ _ | .lookupswitch _ _ | .goto _ | .ireturn | .lreturn | .return_ | .athrow => true
  | _ => false
/-- a call's check: M the caller, M' the callee -/
def pm_ckc (T : List PmM) (M : PmM) (e : PmI) (idx kd : Nat) : Bool := match T[pi_a e]? with
  | none => false
  | some M' => decide (mm_kd M' = kd) && decide (pi_c e = mm_na M' + (if kd = 0 then 0 else 1)) && decide ((pi_t e).getD 0 0 = mm_ml M') && decide (mm_fr M' + 1 ≤ mm_fr M) && decide (8 + (mm_ml M' + 11) + mm_lo M' ≤ mm_lo M) &&
    (if pi_v e = 0 then pm_has (pi_q e) (.methodLink (mm_nm M).cls idx (mm_nm M')) else decide (pm_nl[pi_q e]? = some (.methodLinkNest (mm_nm M).cls idx (mm_nm M') "ButterflyCode")))

def pm_aty : Nat → Option ArrayType
  | 0 => some .int
  | 1 => some .boolean
  | 2 => some .byte
  | 3 => some .long
  | _ => none
def pm_ck (T : List PmM) (M : PmM) (j : Nat) (e : PmI) : Bool :=
  decide (decode (mm_by M) (pi_pc e) = .ok (pi_i e, pi_n e)) && (pm_sw (pi_i e) || decide (pi_n e = pm_ln (pi_i e))) && (pm_end (pi_i e) || decide (pm_pc (mm_cd M) (j + 1) = pi_pc e + pi_n e)) &&
  (match pi_i e with
  | .goto off => decide ((pi_pc e : Int) + off = (pm_pc (mm_cd M) (pi_a e) : Int))
  | .ifCond _ off => decide ((pi_pc e : Int) + off = (pm_pc (mm_cd M) (pi_a e) : Int))
  | .if_icmp _ off => decide ((pi_pc e : Int) + off = (pm_pc (mm_cd M) (pi_a e) : Int))
  | .tableswitch d _ _ offs => decide ((pi_pc e : Int) + d = (pm_pc (mm_cd M) (pi_a e) : Int)) && decide (offs.toList = (pi_t e).map (fun t => (pm_pc (mm_cd M) t : Int) - (pi_pc e : Int)))
  | .lookupswitch d ps => decide ((pi_pc e : Int) + d = (pm_pc (mm_cd M) (pi_a e) : Int)) && decide (ps.toList.map (fun q => q.2) = (pi_t e).map (fun t => (pm_pc (mm_cd M) t : Int) - (pi_pc e : Int))) && (ps.toList.zip (ps.toList.drop 1)).all (fun (a, next) => a.1 < next.1)
  | .ireturn => (match pi_d e with
    | 0 => decide (mm_rt M = some .int)
    | 1 => decide (mm_rt M = some .boolean)
    | 2 => decide (mm_rt M = some .byte)
    | _ => decide (mm_rt M = some .char))
  | .lreturn => decide (mm_rt M = some .long)
  | .return_ => decide (mm_rt M = none)
  | .istore i => decide (i < mm_ml M)
  | .istore_n i => decide ((i : Nat) < mm_ml M)
  | .astore_n i => decide ((i : Nat) < mm_ml M)
  | .lstore i => decide (i + 1 < mm_ml M)
  | .lstore_n i => decide ((i : Nat) + 1 < mm_ml M)
  | .iinc i _ => decide (i < mm_ml M)
  | .ldc i => (match pi_d e with
    | 0 => pm_has (pi_q e) (.constant (mm_nm M).cls i (Int32.ofInt (pi_v e)))
    | _ => decide ((mm_nm M).cls = RX1 ∧ pi_a e < 6 ∧ pm_SI.getD (pi_a e) 0 = i))
  | .ldc_w i => pm_has (pi_q e) (.constant (mm_nm M).cls i (Int32.ofInt (pi_v e)))
  | .ldc2_w i => pm_has (pi_q e) (.constantLong (mm_nm M).cls i (Int64.ofInt (pi_v e)))
  | .getstatic i => (match pi_d e with
    | 0 => decide (pi_v e = 1) && pm_has (pi_q e) (.fieldLink (mm_nm M).cls i "java/lang/String" "COMPACT_STRINGS" "Z")
    | 1 => decide (pi_a e = 40) && pm_has (pi_q e) (.fieldLink (mm_nm M).cls i "ButterflyCode" "LOWER" "[J")
    | _ => decide (pi_a e = 60) && pm_has (pi_q e) (.fieldLink (mm_nm M).cls i "jdk/internal/util/Preconditions" "SIOOBE_FORMATTER" "Ljava/util/function/BiFunction;"))
  | .getfield i => (if pi_a e = 99 then (if pi_c e = 0 then pm_has (pi_q e) (.fieldLink (mm_nm M).cls i "java/lang/String" "value" "[B") else pm_has (pi_q e) (.fieldLink (mm_nm M).cls i "java/lang/String" "coder" "B")) else
    match vwCl[pi_a e]? with
    | none => false
    | some (_, TT, N) => decide (pi_c e < N) && decide (pi_d e = pm_k (pi_a e) (pi_c e)) && pm_has (pi_q e) (.fieldLink (mm_nm M).cls i (TT (pi_c e)).1 (TT (pi_c e)).2.1 (TT (pi_c e)).2.2.1))
  | .putfield i => (match vwCl[pi_a e]? with
    | none => false
    | some (_, TT, N) => decide (pi_c e < N) && decide (pi_d e = pm_k (pi_a e) (pi_c e)) && pm_has (pi_q e) (.fieldLink (mm_nm M).cls i (TT (pi_c e)).1 (TT (pi_c e)).2.1 (TT (pi_c e)).2.2.1) &&
      (!(TT (pi_c e)).2.2.2 || (decide ((TT (pi_c e)).1 = (mm_nm M).cls) && decide ((mm_nm M).name = "<init>"))))
  | .new i => (match vwCl[pi_a e]? with
    | none => false
    | some (C, _, N) => decide (pi_c e = N) && pm_has (pi_q e) (.classLink (mm_nm M).cls i C))
  | .newarray t => decide (pm_aty (pi_d e) = some t)
  | .anewarray i => pm_has (pi_q e) (.classLink (mm_nm M).cls i RX6)
  | .invokestatic i => (match pi_d e with
    | 7 => decide (1 ≤ mm_fr M) && decide (26 ≤ mm_lo M) && pm_has (pi_q e) (.methodLink (mm_nm M).cls i arraycopyName)
    | _ => pm_ckc T M e i 0)
  | .invokevirtual i => pm_ckc T M e i 1 && (match T[pi_a e]? with
    | none => false
    | some M' => if pi_d e = 99 then decide ((mm_nm M').cls = "java/lang/String") else match vwCl[pi_d e]? with
      | none => false
      | some (C, _, _) => decide ((mm_nm M').cls = C))
  | .invokespecial i => (match pi_d e with
    | 6 => decide (1 ≤ mm_fr M) && decide (20 ≤ mm_lo M) && pm_has (pi_q e) (.methodLink (mm_nm M).cls i objectInit)
    | _ => pm_ckc T M e i 2)
  | _ => true)
/-- an instruction that no run comes to is laid as athrow -/
def pm_dead : Instr → Bool
  | .athrow => true
  | _ => false
theorem pm_x_live {xs : PmX} {e : PmI} {j : Nat} {lv : PmL} {st : List Value} {h : PmH} {z : PmR} (hx : pm_x xs e j lv st h = some z) : pm_dead (pi_i e) = false := by
  cases hi : pi_i e <;> first | rfl | (unfold pm_x at hx; rw [hi] at hx; cases hx)
def pm_ckI (T : List PmM) (M : PmM) : Bool := (List.range (mm_cd M).length).all (fun j => match (mm_cd M)[j]? with
    | none => true
    | some e => pm_dead (pi_i e) || pm_ck T M j e)
/-- a method's own check: its words -/
def pm_ckM (T : List PmM) (M : PmM) : Bool :=
  plainFor (mm_nm M) && pm_has (mm_pl M).1 (.code (mm_nm M) (mm_by M) (mm_ml M) (mm_rt M)) && pm_has (mm_pl M).2.1 (.initialized (mm_nm M).cls) &&
  decide ((mm_nm M).cls ≠ "java/lang/invoke/MethodHandle" ∧ (mm_nm M).cls ≠ "java/lang/invoke/VarHandle" ∧ (parseMethodDescriptor (mm_nm M).desc).map (fun d => d.parameters.length) = some (mm_na M)) &&
  (match mm_kd M with
  | 0 => pm_has (mm_pl M).2.2.1 (.static (mm_nm M))
  | 1 => pm_has (mm_pl M).2.2.1 (.instanceMethod (mm_nm M)) && pm_has (mm_pl M).2.2.2 (.selects (mm_nm M).cls (mm_nm M) (mm_nm M))
  | _ => pm_has (mm_pl M).2.2.1 (.instanceMethod (mm_nm M)) && decide ((mm_nm M).name = "<init>" ∧ mm_rt M = none)) && decide (pm_pc (mm_cd M) 0 = 0) && pm_ckI T M
def pm_ok (T : List PmM) : Prop := ∀ (y : Nat) (M : PmM), T[y]? = some M → pm_ckM T M = true
theorem pckM_I {T : List PmM} {M : PmM} (h : pm_ckM T M = true) : pm_ckI T M = true := by
  simp only [pm_ckM, Bool.and_eq_true] at h
  exact h.2
theorem pck_at {T : List PmM} {M : PmM} (h : pm_ckI T M = true) {j : Nat} {e : PmI} (he : (mm_cd M)[j]? = some e) (hl : pm_dead (pi_i e) = false) : pm_ck T M j e = true := by
  unfold pm_ckI at h
  have h1 := List.all_eq_true.mp h j (List.mem_range.mpr (List.getElem?_eq_some_iff.mp he).1)
  rw [he] at h1
  simp only [hl, Bool.false_or] at h1
  exact h1
theorem pck_dec {T : List PmM} {M : PmM} {j : Nat} {e : PmI} (h : pm_ck T M j e = true) : decode (mm_by M) (pi_pc e) = .ok (pi_i e, pi_n e) := by
  simp only [pm_ck, Bool.and_eq_true, decide_eq_true_eq] at h
  exact h.1.1.1
theorem pck_d1 {T : List PmM} {M : PmM} {j : Nat} {e : PmI} (h : pm_ck T M j e = true) {i : Instr} (hi : pi_i e = i) {n : Nat} (hs : pm_sw i = false) (hn : pm_ln i = n) : decode (mm_by M) (pi_pc e) = .ok (i, n) := by
  have hd := pck_dec h
  simp only [pm_ck, Bool.and_eq_true, decide_eq_true_eq] at h
  have h2 := h.1.1.2
  rw [hi] at h2 hd
  simp only [hs, Bool.false_or, decide_eq_true_eq] at h2
  rw [h2, hn] at hd
  exact hd
theorem pck_nx {T : List PmM} {M : PmM} {j : Nat} {e : PmI} (h : pm_ck T M j e = true) {i : Instr} (hi : pi_i e = i) {n : Nat} (hs : pm_sw i = false) (hn : pm_ln i = n) (he : pm_end i = false) : pm_pc (mm_cd M) (j + 1) = pi_pc e + n := by
  simp only [pm_ck, Bool.and_eq_true, decide_eq_true_eq] at h
  have h2 := h.1.1.2
  have h3 := h.1.2
  rw [hi] at h2 h3
  simp only [hs, he, Bool.false_or, decide_eq_true_eq] at h2 h3
  rw [h3, h2, hn]
theorem pm_pc_at {es : List PmI} {j : Nat} {e : PmI} (he : es[j]? = some e) : pm_pc es j = pi_pc e := by rw [pm_pc, he]
/-! THE CONTEXT of a method's body -/
def pm_tys (ta : Nat → ClassId) : List (ClassId × FieldType) := [(ta 0, .int), (ta 1, .boolean), (ta 2, .byte), (ta 3, .long), (ta 4, .object RX6)]
def pm_Ext (b : Nat) (x : Nat → Value) (xs : PmX) (U : State) (H : Heap) : Prop :=
  (∃ adK adV : Nat → Nat, vk_S 6 pm_JL pm_JB adK adV (fun q => b ≤ q) U H ∧ ∀ i, i < 6 → x i = .ref (adK i) ∧ x (16 + i) = .ref (adV i) ∧ vk_R RX1 (pm_SI.getD i 0) (pm_ST.getD i "") (adK i) U) ∧
  (∃ t : Nat, x 40 = .ref t ∧ va_T .long t 6 (fun j => .long (pm_LW.getD j 0)) (fun q => b ≤ q) U H ∧ va_Z "ButterflyCode" "LOWER" "[J" (.ref t) (fun q => b ≤ q) U H) ∧
  (∃ t : Nat, x 41 = .ref t ∧ va_X t xs.1 xs.2 U H ∧ t < b ∧ t < H.size) ∧
  va_Z "java/lang/String" "COMPACT_STRINGS" "Z" (.int 1) (fun q => b ≤ q) U H ∧
  va_Z "jdk/internal/util/Preconditions" "SIOOBE_FORMATTER" "Ljava/util/function/BiFunction;" (x 60) (fun q => b ≤ q) U H
def pm_K (b : Nat) (x : Nat → Value) (ta : Nat → ClassId) (D : va_G) (xs : PmX) (U : State) : Prop :=
  va_K D vwCl (pm_tys ta) U ∧ (∀ w ∈ pm_nl, va_Nw w U) ∧ va_AO RX6 U ∧ pm_Ext b x xs U U.heap
theorem pm_nl_is {w : Cond} (h : w ∈ pm_nl) : ∃ a i y k, w = .methodLinkNest a i y k := by
  have h1 := (List.mem_filter.mp h).2
  cases w <;> first | exact ⟨_, _, _, _, rfl⟩ | (exact absurd (show false = true from h1) (by decide))
theorem pm_Ext.to {b : Nat} {x : Nat → Value} {xs : PmX} {u U : State} {H H1 : Heap} (hW : u.WarmedH U.vm) (hq : ∀ a : Nat, a < H.size → ¬ b ≤ a → H1[a]? = H[a]?) (hz : H.size ≤ H1.size) (h : pm_Ext b x xs u H) : pm_Ext b x xs U H1 := by
  obtain ⟨⟨adK, adV, h1, h2⟩, ⟨t, h3, h4, h5⟩, ⟨t2, h6, h7, h8, h9⟩, h10, h11⟩ := h
  exact ⟨⟨adK, adV, (h1.moved hW.alike).kept hq, fun i hi => ⟨(h2 i hi).1, (h2 i hi).2.1, (h2 i hi).2.2.warm hW⟩⟩, ⟨t, h3, (h4.moved hW.alike).kept hq, (h5.moved hW.alike).kept hq⟩,
    ⟨t2, h6, (h7.moved hW.alike).kept (hq t2 h9 (Nat.not_le.mpr h8)), h8, Nat.lt_of_lt_of_le h9 hz⟩, (h10.moved hW.alike).kept hq, (h11.moved hW.alike).kept hq⟩
theorem pm_K.to {b : Nat} {x : Nat → Value} {ta : Nat → ClassId} {D : va_G} {xs : PmX} {u U : State} {H : Heap} {locs : List Loc} (hW : u.WarmedH U.vm) (hU : U.heap = H) (hS : va_S (fun q => b ≤ q) u.heap H locs) (h : pm_K b x ta D xs u) : pm_K b x ta D xs U := by
  obtain ⟨h1, h2, h3, h4⟩ := h
  refine ⟨va_K.moved hW.alike h1, fun w hw => ?_, va_AO.moved hW.alike h3, ?_⟩
  · obtain ⟨a, i, y, k, rfl⟩ := pm_nl_is hw
    exact va_Nw.warmM hW (h2 _ hw)
  · rw [hU]
    exact h4.to hW hS.2.1 hS.1
def pm_C (p : Program) (R : Room) (s : State) (m : MethodId) (args : Array Value) (meth : Method) (c : Code) (T : List PmM) (M : PmM) (b : Nat) (x : Nat → Value) (ta : Nat → ClassId) (D : va_G) (xs : PmX) (h0 : PmH) : Prop :=
  p.tables.exec = Jvm.exec ∧ c.code = mm_by M ∧ c.maxLocals = mm_ml M ∧ s.vm.findClass (mm_nm M).cls = some m.cls ∧ (∀ w ∈ pm_ws, w.before args s = true) ∧ pm_K b x ta D xs s ∧ s.heap.size = b + (ph_s h0).length ∧ mm_fr M ≤ R.frames ∧ mm_lo M ≤ R.locals ∧ meth.name = (mm_nm M).name ∧ (∀ k, x k = .null ∨ ∃ a, x k = .ref a) ∧ pm_ckI T M = true ∧ pm_ok T
def pm_G (p : Program) (l : Launch) (e : Env) (R : Room) (s : State) (m : MethodId) (args : Array Value) (below : List Frame) (meth : Method) (c : Code) (Q : State → Prop) (M : PmM) (b : Nat) (x : Nat → Value) (ta : Nat → ClassId) (D : va_G) (h0 : PmH) (j : Nat) (lv : PmL) (st : List Value) (h : PmH) : Prop :=
  ∀ (H : Heap) (locs : List Loc) (ls : Array Slot), va_P D vwCl (pm_w b x ta h) H → va_S (fun q => b ≤ q) s.heap H locs → pm_lv b x (mm_ml M) lv ls →
    W p l e R s m args below meth c H locs ((ph_s h).length - (ph_s h0).length) (pm_sz h - pm_sz h0) Q (F0 m (pm_pc (mm_cd M) j) ls (st.map (pm_v b x)))
theorem pm_xc {x : Nat → Value} (h : ∀ k, x k = .null ∨ ∃ a, x k = .ref a) (k : Nat) : (x k).category = 1 := by
  rcases h k with h | ⟨a, h⟩ <;> rw [h] <;> rfl
section PMS
variable {p : Program} {l : Launch} {e : Env} {R : Room} {s : State} {m : MethodId} {args : Array Value} {below : List Frame} {meth : Method} {c : Code} {Q : State → Prop} {T : List PmM} {M : PmM} {b : Nat} {x : Nat → Value} {ta : Nat → ClassId} {D : va_G} {xs : PmX} {h0 : PmH} {j j' : Nat} {lv lv' : PmL} {st st' : List Value} {h h' : PmH} {en : PmI}

theorem pm_s_iconst {n : Int} (C : pm_C p R s m args meth c T M b x ta D xs h0) (he : (mm_cd M)[j]? = some en) (hx : pm_x xs en j lv st h = some (.inl (j', lv', st', h'))) (k : pm_G p l e R s m args below meth c Q M b x ta D h0 j' lv' st' h') (hi : pi_i en = .iconst n) : pm_G p l e R s m args below meth c Q M b x ta D h0 j lv st h := by
  obtain ⟨hx1, hb, hml, hown, hts, hK, hsz, hfr, hlo, hnm, hxr, hcM, hT⟩ := C
  have hck := pck_at hcM he (pm_x_live hx)
  have hd := pck_d1 hck (i := .iconst n) hi rfl rfl
  have hnx := pck_nx hck (i := .iconst n) hi rfl rfl rfl
  have hpc := pm_pc_at he
  unfold pm_x at hx
  rw [hi] at hx
  simp only [pm_nx] at hx
  cases hx
  intro H locs ls hP hS hl
  have kk := k H locs ls hP hS hl
  rw [hnx] at kk
  rw [hpc]
  exact lv_iconst hx1 hb hd rfl kk
theorem pm_s_bipush {n : Int} (C : pm_C p R s m args meth c T M b x ta D xs h0) (he : (mm_cd M)[j]? = some en) (hx : pm_x xs en j lv st h = some (.inl (j', lv', st', h'))) (k : pm_G p l e R s m args below meth c Q M b x ta D h0 j' lv' st' h') (hi : pi_i en = .bipush n) : pm_G p l e R s m args below meth c Q M b x ta D h0 j lv st h := by
  obtain ⟨hx1, hb, hml, hown, hts, hK, hsz, hfr, hlo, hnm, hxr, hcM, hT⟩ := C
  have hck := pck_at hcM he (pm_x_live hx)
  have hd := pck_d1 hck (i := .bipush n) hi rfl rfl
  have hnx := pck_nx hck (i := .bipush n) hi rfl rfl rfl
  have hpc := pm_pc_at he
  unfold pm_x at hx
  rw [hi] at hx
  simp only [pm_nx] at hx
  cases hx
  intro H locs ls hP hS hl
  have kk := k H locs ls hP hS hl
  rw [hnx] at kk
  rw [hpc]
  exact lv_bipush hx1 hb hd rfl kk
theorem pm_s_sipush {n : Int} (C : pm_C p R s m args meth c T M b x ta D xs h0) (he : (mm_cd M)[j]? = some en) (hx : pm_x xs en j lv st h = some (.inl (j', lv', st', h'))) (k : pm_G p l e R s m args below meth c Q M b x ta D h0 j' lv' st' h') (hi : pi_i en = .sipush n) : pm_G p l e R s m args below meth c Q M b x ta D h0 j lv st h := by
  obtain ⟨hx1, hb, hml, hown, hts, hK, hsz, hfr, hlo, hnm, hxr, hcM, hT⟩ := C
  have hck := pck_at hcM he (pm_x_live hx)
  have hd := pck_d1 hck (i := .sipush n) hi rfl rfl
  have hnx := pck_nx hck (i := .sipush n) hi rfl rfl rfl
  have hpc := pm_pc_at he
  unfold pm_x at hx
  rw [hi] at hx
  simp only [pm_nx] at hx
  cases hx
  intro H locs ls hP hS hl
  have kk := k H locs ls hP hS hl
  rw [hnx] at kk
  rw [hpc]
  exact lv_sipush hx1 hb hd rfl kk
theorem pm_s_lconst {n : Fin 2} (C : pm_C p R s m args meth c T M b x ta D xs h0) (he : (mm_cd M)[j]? = some en) (hx : pm_x xs en j lv st h = some (.inl (j', lv', st', h'))) (k : pm_G p l e R s m args below meth c Q M b x ta D h0 j' lv' st' h') (hi : pi_i en = .lconst n) : pm_G p l e R s m args below meth c Q M b x ta D h0 j lv st h := by
  obtain ⟨hx1, hb, hml, hown, hts, hK, hsz, hfr, hlo, hnm, hxr, hcM, hT⟩ := C
  have hck := pck_at hcM he (pm_x_live hx)
  have hd := pck_d1 hck (i := .lconst n) hi rfl rfl
  have hnx := pck_nx hck (i := .lconst n) hi rfl rfl rfl
  have hpc := pm_pc_at he
  unfold pm_x at hx
  rw [hi] at hx
  simp only [pm_nx] at hx
  cases hx
  intro H locs ls hP hS hl
  have kk := k H locs ls hP hS hl
  rw [hnx] at kk
  rw [hpc]
  exact lv_lconst hx1 hb hd rfl kk
theorem pm_s_iadd (C : pm_C p R s m args meth c T M b x ta D xs h0) (he : (mm_cd M)[j]? = some en) (hx : pm_x xs en j lv st h = some (.inl (j', lv', st', h'))) (k : pm_G p l e R s m args below meth c Q M b x ta D h0 j' lv' st' h') (hi : pi_i en = .iadd) : pm_G p l e R s m args below meth c Q M b x ta D h0 j lv st h := by
  obtain ⟨hx1, hb, hml, hown, hts, hK, hsz, hfr, hlo, hnm, hxr, hcM, hT⟩ := C
  have hck := pck_at hcM he (pm_x_live hx)
  have hd := pck_d1 hck (i := .iadd) hi rfl rfl
  have hnx := pck_nx hck (i := .iadd) hi rfl rfl rfl
  have hpc := pm_pc_at he
  unfold pm_x at hx
  rw [hi] at hx
  simp only [pm_ii, pm_nx] at hx
  split at hx
  · cases hx
    intro H locs ls hP hS hl
    have kk := k H locs ls hP hS hl
    rw [hnx] at kk
    rw [hpc]
    exact lv_iadd hx1 hb hd kk
  · cases hx
theorem pm_s_isub (C : pm_C p R s m args meth c T M b x ta D xs h0) (he : (mm_cd M)[j]? = some en) (hx : pm_x xs en j lv st h = some (.inl (j', lv', st', h'))) (k : pm_G p l e R s m args below meth c Q M b x ta D h0 j' lv' st' h') (hi : pi_i en = .isub) : pm_G p l e R s m args below meth c Q M b x ta D h0 j lv st h := by
  obtain ⟨hx1, hb, hml, hown, hts, hK, hsz, hfr, hlo, hnm, hxr, hcM, hT⟩ := C
  have hck := pck_at hcM he (pm_x_live hx)
  have hd := pck_d1 hck (i := .isub) hi rfl rfl
  have hnx := pck_nx hck (i := .isub) hi rfl rfl rfl
  have hpc := pm_pc_at he
  unfold pm_x at hx
  rw [hi] at hx
  simp only [pm_ii, pm_nx] at hx
  split at hx
  · cases hx
    intro H locs ls hP hS hl
    have kk := k H locs ls hP hS hl
    rw [hnx] at kk
    rw [hpc]
    exact lv_isub hx1 hb hd kk
  · cases hx
theorem pm_s_imul (C : pm_C p R s m args meth c T M b x ta D xs h0) (he : (mm_cd M)[j]? = some en) (hx : pm_x xs en j lv st h = some (.inl (j', lv', st', h'))) (k : pm_G p l e R s m args below meth c Q M b x ta D h0 j' lv' st' h') (hi : pi_i en = .imul) : pm_G p l e R s m args below meth c Q M b x ta D h0 j lv st h := by
  obtain ⟨hx1, hb, hml, hown, hts, hK, hsz, hfr, hlo, hnm, hxr, hcM, hT⟩ := C
  have hck := pck_at hcM he (pm_x_live hx)
  have hd := pck_d1 hck (i := .imul) hi rfl rfl
  have hnx := pck_nx hck (i := .imul) hi rfl rfl rfl
  have hpc := pm_pc_at he
  unfold pm_x at hx
  rw [hi] at hx
  simp only [pm_ii, pm_nx] at hx
  split at hx
  · cases hx
    intro H locs ls hP hS hl
    have kk := k H locs ls hP hS hl
    rw [hnx] at kk
    rw [hpc]
    exact lv_imul hx1 hb hd kk
  · cases hx
theorem pm_s_ishl (C : pm_C p R s m args meth c T M b x ta D xs h0) (he : (mm_cd M)[j]? = some en) (hx : pm_x xs en j lv st h = some (.inl (j', lv', st', h'))) (k : pm_G p l e R s m args below meth c Q M b x ta D h0 j' lv' st' h') (hi : pi_i en = .ishl) : pm_G p l e R s m args below meth c Q M b x ta D h0 j lv st h := by
  obtain ⟨hx1, hb, hml, hown, hts, hK, hsz, hfr, hlo, hnm, hxr, hcM, hT⟩ := C
  have hck := pck_at hcM he (pm_x_live hx)
  have hd := pck_d1 hck (i := .ishl) hi rfl rfl
  have hnx := pck_nx hck (i := .ishl) hi rfl rfl rfl
  have hpc := pm_pc_at he
  unfold pm_x at hx
  rw [hi] at hx
  simp only [pm_ii, pm_nx] at hx
  split at hx
  · cases hx
    intro H locs ls hP hS hl
    have kk := k H locs ls hP hS hl
    rw [hnx] at kk
    rw [hpc]
    exact lv_ishl hx1 hb hd kk
  · cases hx
theorem pm_s_ishr (C : pm_C p R s m args meth c T M b x ta D xs h0) (he : (mm_cd M)[j]? = some en) (hx : pm_x xs en j lv st h = some (.inl (j', lv', st', h'))) (k : pm_G p l e R s m args below meth c Q M b x ta D h0 j' lv' st' h') (hi : pi_i en = .ishr) : pm_G p l e R s m args below meth c Q M b x ta D h0 j lv st h := by
  obtain ⟨hx1, hb, hml, hown, hts, hK, hsz, hfr, hlo, hnm, hxr, hcM, hT⟩ := C
  have hck := pck_at hcM he (pm_x_live hx)
  have hd := pck_d1 hck (i := .ishr) hi rfl rfl
  have hnx := pck_nx hck (i := .ishr) hi rfl rfl rfl
  have hpc := pm_pc_at he
  unfold pm_x at hx
  rw [hi] at hx
  simp only [pm_ii, pm_nx] at hx
  split at hx
  · cases hx
    intro H locs ls hP hS hl
    have kk := k H locs ls hP hS hl
    rw [hnx] at kk
    rw [hpc]
    exact lv_ishr hx1 hb hd kk
  · cases hx
theorem pm_s_iand (C : pm_C p R s m args meth c T M b x ta D xs h0) (he : (mm_cd M)[j]? = some en) (hx : pm_x xs en j lv st h = some (.inl (j', lv', st', h'))) (k : pm_G p l e R s m args below meth c Q M b x ta D h0 j' lv' st' h') (hi : pi_i en = .iand) : pm_G p l e R s m args below meth c Q M b x ta D h0 j lv st h := by
  obtain ⟨hx1, hb, hml, hown, hts, hK, hsz, hfr, hlo, hnm, hxr, hcM, hT⟩ := C
  have hck := pck_at hcM he (pm_x_live hx)
  have hd := pck_d1 hck (i := .iand) hi rfl rfl
  have hnx := pck_nx hck (i := .iand) hi rfl rfl rfl
  have hpc := pm_pc_at he
  unfold pm_x at hx
  rw [hi] at hx
  simp only [pm_ii, pm_nx] at hx
  split at hx
  · cases hx
    intro H locs ls hP hS hl
    have kk := k H locs ls hP hS hl
    rw [hnx] at kk
    rw [hpc]
    exact lv_iand hx1 hb hd kk
  · cases hx
theorem pm_s_ior (C : pm_C p R s m args meth c T M b x ta D xs h0) (he : (mm_cd M)[j]? = some en) (hx : pm_x xs en j lv st h = some (.inl (j', lv', st', h'))) (k : pm_G p l e R s m args below meth c Q M b x ta D h0 j' lv' st' h') (hi : pi_i en = .ior) : pm_G p l e R s m args below meth c Q M b x ta D h0 j lv st h := by
  obtain ⟨hx1, hb, hml, hown, hts, hK, hsz, hfr, hlo, hnm, hxr, hcM, hT⟩ := C
  have hck := pck_at hcM he (pm_x_live hx)
  have hd := pck_d1 hck (i := .ior) hi rfl rfl
  have hnx := pck_nx hck (i := .ior) hi rfl rfl rfl
  have hpc := pm_pc_at he
  unfold pm_x at hx
  rw [hi] at hx
  simp only [pm_ii, pm_nx] at hx
  split at hx
  · cases hx
    intro H locs ls hP hS hl
    have kk := k H locs ls hP hS hl
    rw [hnx] at kk
    rw [hpc]
    exact lv_ior hx1 hb hd kk
  · cases hx
theorem pm_s_ixor (C : pm_C p R s m args meth c T M b x ta D xs h0) (he : (mm_cd M)[j]? = some en) (hx : pm_x xs en j lv st h = some (.inl (j', lv', st', h'))) (k : pm_G p l e R s m args below meth c Q M b x ta D h0 j' lv' st' h') (hi : pi_i en = .ixor) : pm_G p l e R s m args below meth c Q M b x ta D h0 j lv st h := by
  obtain ⟨hx1, hb, hml, hown, hts, hK, hsz, hfr, hlo, hnm, hxr, hcM, hT⟩ := C
  have hck := pck_at hcM he (pm_x_live hx)
  have hd := pck_d1 hck (i := .ixor) hi rfl rfl
  have hnx := pck_nx hck (i := .ixor) hi rfl rfl rfl
  have hpc := pm_pc_at he
  unfold pm_x at hx
  rw [hi] at hx
  simp only [pm_ii, pm_nx] at hx
  split at hx
  · cases hx
    intro H locs ls hP hS hl
    have kk := k H locs ls hP hS hl
    rw [hnx] at kk
    rw [hpc]
    exact lv_ixor hx1 hb hd kk
  · cases hx
theorem pm_s_iushr (C : pm_C p R s m args meth c T M b x ta D xs h0) (he : (mm_cd M)[j]? = some en) (hx : pm_x xs en j lv st h = some (.inl (j', lv', st', h'))) (k : pm_G p l e R s m args below meth c Q M b x ta D h0 j' lv' st' h') (hi : pi_i en = .iushr) : pm_G p l e R s m args below meth c Q M b x ta D h0 j lv st h := by
  obtain ⟨hx1, hb, hml, hown, hts, hK, hsz, hfr, hlo, hnm, hxr, hcM, hT⟩ := C
  have hck := pck_at hcM he (pm_x_live hx)
  have hd := pck_d1 hck (i := .iushr) hi rfl rfl
  have hnx := pck_nx hck (i := .iushr) hi rfl rfl rfl
  have hpc := pm_pc_at he
  unfold pm_x at hx
  rw [hi] at hx
  simp only [pm_ii, pm_nx] at hx
  split at hx
  · cases hx
    intro H locs ls hP hS hl
    have kk := k H locs ls hP hS hl
    rw [hnx] at kk
    rw [hpc]
    exact lv_iushr hx1 hb hd rfl kk
  · cases hx
theorem pm_s_ladd (C : pm_C p R s m args meth c T M b x ta D xs h0) (he : (mm_cd M)[j]? = some en) (hx : pm_x xs en j lv st h = some (.inl (j', lv', st', h'))) (k : pm_G p l e R s m args below meth c Q M b x ta D h0 j' lv' st' h') (hi : pi_i en = .ladd) : pm_G p l e R s m args below meth c Q M b x ta D h0 j lv st h := by
  obtain ⟨hx1, hb, hml, hown, hts, hK, hsz, hfr, hlo, hnm, hxr, hcM, hT⟩ := C
  have hck := pck_at hcM he (pm_x_live hx)
  have hd := pck_d1 hck (i := .ladd) hi rfl rfl
  have hnx := pck_nx hck (i := .ladd) hi rfl rfl rfl
  have hpc := pm_pc_at he
  unfold pm_x at hx
  rw [hi] at hx
  simp only [pm_ll, pm_nx] at hx
  split at hx
  · cases hx
    intro H locs ls hP hS hl
    have kk := k H locs ls hP hS hl
    rw [hnx] at kk
    rw [hpc]
    exact lv_ladd hx1 hb hd kk
  · cases hx
theorem pm_s_lsub (C : pm_C p R s m args meth c T M b x ta D xs h0) (he : (mm_cd M)[j]? = some en) (hx : pm_x xs en j lv st h = some (.inl (j', lv', st', h'))) (k : pm_G p l e R s m args below meth c Q M b x ta D h0 j' lv' st' h') (hi : pi_i en = .lsub) : pm_G p l e R s m args below meth c Q M b x ta D h0 j lv st h := by
  obtain ⟨hx1, hb, hml, hown, hts, hK, hsz, hfr, hlo, hnm, hxr, hcM, hT⟩ := C
  have hck := pck_at hcM he (pm_x_live hx)
  have hd := pck_d1 hck (i := .lsub) hi rfl rfl
  have hnx := pck_nx hck (i := .lsub) hi rfl rfl rfl
  have hpc := pm_pc_at he
  unfold pm_x at hx
  rw [hi] at hx
  simp only [pm_ll, pm_nx] at hx
  split at hx
  · cases hx
    intro H locs ls hP hS hl
    have kk := k H locs ls hP hS hl
    rw [hnx] at kk
    rw [hpc]
    exact lv_lsub hx1 hb hd kk
  · cases hx
theorem pm_s_lmul (C : pm_C p R s m args meth c T M b x ta D xs h0) (he : (mm_cd M)[j]? = some en) (hx : pm_x xs en j lv st h = some (.inl (j', lv', st', h'))) (k : pm_G p l e R s m args below meth c Q M b x ta D h0 j' lv' st' h') (hi : pi_i en = .lmul) : pm_G p l e R s m args below meth c Q M b x ta D h0 j lv st h := by
  obtain ⟨hx1, hb, hml, hown, hts, hK, hsz, hfr, hlo, hnm, hxr, hcM, hT⟩ := C
  have hck := pck_at hcM he (pm_x_live hx)
  have hd := pck_d1 hck (i := .lmul) hi rfl rfl
  have hnx := pck_nx hck (i := .lmul) hi rfl rfl rfl
  have hpc := pm_pc_at he
  unfold pm_x at hx
  rw [hi] at hx
  simp only [pm_ll, pm_nx] at hx
  split at hx
  · cases hx
    intro H locs ls hP hS hl
    have kk := k H locs ls hP hS hl
    rw [hnx] at kk
    rw [hpc]
    exact lv_lmul hx1 hb hd kk
  · cases hx
theorem pm_s_land (C : pm_C p R s m args meth c T M b x ta D xs h0) (he : (mm_cd M)[j]? = some en) (hx : pm_x xs en j lv st h = some (.inl (j', lv', st', h'))) (k : pm_G p l e R s m args below meth c Q M b x ta D h0 j' lv' st' h') (hi : pi_i en = .land) : pm_G p l e R s m args below meth c Q M b x ta D h0 j lv st h := by
  obtain ⟨hx1, hb, hml, hown, hts, hK, hsz, hfr, hlo, hnm, hxr, hcM, hT⟩ := C
  have hck := pck_at hcM he (pm_x_live hx)
  have hd := pck_d1 hck (i := .land) hi rfl rfl
  have hnx := pck_nx hck (i := .land) hi rfl rfl rfl
  have hpc := pm_pc_at he
  unfold pm_x at hx
  rw [hi] at hx
  simp only [pm_ll, pm_nx] at hx
  split at hx
  · cases hx
    intro H locs ls hP hS hl
    have kk := k H locs ls hP hS hl
    rw [hnx] at kk
    rw [hpc]
    exact lv_land hx1 hb hd kk
  · cases hx
theorem pm_s_lor (C : pm_C p R s m args meth c T M b x ta D xs h0) (he : (mm_cd M)[j]? = some en) (hx : pm_x xs en j lv st h = some (.inl (j', lv', st', h'))) (k : pm_G p l e R s m args below meth c Q M b x ta D h0 j' lv' st' h') (hi : pi_i en = .lor) : pm_G p l e R s m args below meth c Q M b x ta D h0 j lv st h := by
  obtain ⟨hx1, hb, hml, hown, hts, hK, hsz, hfr, hlo, hnm, hxr, hcM, hT⟩ := C
  have hck := pck_at hcM he (pm_x_live hx)
  have hd := pck_d1 hck (i := .lor) hi rfl rfl
  have hnx := pck_nx hck (i := .lor) hi rfl rfl rfl
  have hpc := pm_pc_at he
  unfold pm_x at hx
  rw [hi] at hx
  simp only [pm_ll, pm_nx] at hx
  split at hx
  · cases hx
    intro H locs ls hP hS hl
    have kk := k H locs ls hP hS hl
    rw [hnx] at kk
    rw [hpc]
    exact lv_lor hx1 hb hd kk
  · cases hx
theorem pm_s_lxor (C : pm_C p R s m args meth c T M b x ta D xs h0) (he : (mm_cd M)[j]? = some en) (hx : pm_x xs en j lv st h = some (.inl (j', lv', st', h'))) (k : pm_G p l e R s m args below meth c Q M b x ta D h0 j' lv' st' h') (hi : pi_i en = .lxor) : pm_G p l e R s m args below meth c Q M b x ta D h0 j lv st h := by
  obtain ⟨hx1, hb, hml, hown, hts, hK, hsz, hfr, hlo, hnm, hxr, hcM, hT⟩ := C
  have hck := pck_at hcM he (pm_x_live hx)
  have hd := pck_d1 hck (i := .lxor) hi rfl rfl
  have hnx := pck_nx hck (i := .lxor) hi rfl rfl rfl
  have hpc := pm_pc_at he
  unfold pm_x at hx
  rw [hi] at hx
  simp only [pm_ll, pm_nx] at hx
  split at hx
  · cases hx
    intro H locs ls hP hS hl
    have kk := k H locs ls hP hS hl
    rw [hnx] at kk
    rw [hpc]
    exact lv_lxor hx1 hb hd kk
  · cases hx
theorem pm_s_lcmp (C : pm_C p R s m args meth c T M b x ta D xs h0) (he : (mm_cd M)[j]? = some en) (hx : pm_x xs en j lv st h = some (.inl (j', lv', st', h'))) (k : pm_G p l e R s m args below meth c Q M b x ta D h0 j' lv' st' h') (hi : pi_i en = .lcmp) : pm_G p l e R s m args below meth c Q M b x ta D h0 j lv st h := by
  obtain ⟨hx1, hb, hml, hown, hts, hK, hsz, hfr, hlo, hnm, hxr, hcM, hT⟩ := C
  have hck := pck_at hcM he (pm_x_live hx)
  have hd := pck_d1 hck (i := .lcmp) hi rfl rfl
  have hnx := pck_nx hck (i := .lcmp) hi rfl rfl rfl
  have hpc := pm_pc_at he
  unfold pm_x at hx
  rw [hi] at hx
  simp only [pm_ll, pm_nx] at hx
  split at hx
  · cases hx
    intro H locs ls hP hS hl
    have kk := k H locs ls hP hS hl
    rw [hnx] at kk
    rw [hpc]
    exact W.lcmp hx1 hb hd kk
  · cases hx
theorem pm_s_lshl (C : pm_C p R s m args meth c T M b x ta D xs h0) (he : (mm_cd M)[j]? = some en) (hx : pm_x xs en j lv st h = some (.inl (j', lv', st', h'))) (k : pm_G p l e R s m args below meth c Q M b x ta D h0 j' lv' st' h') (hi : pi_i en = .lshl) : pm_G p l e R s m args below meth c Q M b x ta D h0 j lv st h := by
  obtain ⟨hx1, hb, hml, hown, hts, hK, hsz, hfr, hlo, hnm, hxr, hcM, hT⟩ := C
  have hck := pck_at hcM he (pm_x_live hx)
  have hd := pck_d1 hck (i := .lshl) hi rfl rfl
  have hnx := pck_nx hck (i := .lshl) hi rfl rfl rfl
  have hpc := pm_pc_at he
  unfold pm_x at hx
  rw [hi] at hx
  simp only [pm_li, pm_nx] at hx
  split at hx
  · cases hx
    intro H locs ls hP hS hl
    have kk := k H locs ls hP hS hl
    rw [hnx] at kk
    rw [hpc]
    exact lv_lshl hx1 hb hd rfl kk
  · cases hx
theorem pm_s_lshr (C : pm_C p R s m args meth c T M b x ta D xs h0) (he : (mm_cd M)[j]? = some en) (hx : pm_x xs en j lv st h = some (.inl (j', lv', st', h'))) (k : pm_G p l e R s m args below meth c Q M b x ta D h0 j' lv' st' h') (hi : pi_i en = .lshr) : pm_G p l e R s m args below meth c Q M b x ta D h0 j lv st h := by
  obtain ⟨hx1, hb, hml, hown, hts, hK, hsz, hfr, hlo, hnm, hxr, hcM, hT⟩ := C
  have hck := pck_at hcM he (pm_x_live hx)
  have hd := pck_d1 hck (i := .lshr) hi rfl rfl
  have hnx := pck_nx hck (i := .lshr) hi rfl rfl rfl
  have hpc := pm_pc_at he
  unfold pm_x at hx
  rw [hi] at hx
  simp only [pm_li, pm_nx] at hx
  split at hx
  · cases hx
    intro H locs ls hP hS hl
    have kk := k H locs ls hP hS hl
    rw [hnx] at kk
    rw [hpc]
    exact lv_lshr hx1 hb hd rfl kk
  · cases hx
theorem pm_s_lushr (C : pm_C p R s m args meth c T M b x ta D xs h0) (he : (mm_cd M)[j]? = some en) (hx : pm_x xs en j lv st h = some (.inl (j', lv', st', h'))) (k : pm_G p l e R s m args below meth c Q M b x ta D h0 j' lv' st' h') (hi : pi_i en = .lushr) : pm_G p l e R s m args below meth c Q M b x ta D h0 j lv st h := by
  obtain ⟨hx1, hb, hml, hown, hts, hK, hsz, hfr, hlo, hnm, hxr, hcM, hT⟩ := C
  have hck := pck_at hcM he (pm_x_live hx)
  have hd := pck_d1 hck (i := .lushr) hi rfl rfl
  have hnx := pck_nx hck (i := .lushr) hi rfl rfl rfl
  have hpc := pm_pc_at he
  unfold pm_x at hx
  rw [hi] at hx
  simp only [pm_li, pm_nx] at hx
  split at hx
  · cases hx
    intro H locs ls hP hS hl
    have kk := k H locs ls hP hS hl
    rw [hnx] at kk
    rw [hpc]
    exact lv_lushr hx1 hb hd rfl kk
  · cases hx
theorem pm_s_ineg (C : pm_C p R s m args meth c T M b x ta D xs h0) (he : (mm_cd M)[j]? = some en) (hx : pm_x xs en j lv st h = some (.inl (j', lv', st', h'))) (k : pm_G p l e R s m args below meth c Q M b x ta D h0 j' lv' st' h') (hi : pi_i en = .ineg) : pm_G p l e R s m args below meth c Q M b x ta D h0 j lv st h := by
  obtain ⟨hx1, hb, hml, hown, hts, hK, hsz, hfr, hlo, hnm, hxr, hcM, hT⟩ := C
  have hck := pck_at hcM he (pm_x_live hx)
  have hd := pck_d1 hck (i := .ineg) hi rfl rfl
  have hnx := pck_nx hck (i := .ineg) hi rfl rfl rfl
  have hpc := pm_pc_at he
  unfold pm_x at hx
  rw [hi] at hx
  simp only [pm_i1, pm_nx] at hx
  split at hx
  · cases hx
    intro H locs ls hP hS hl
    have kk := k H locs ls hP hS hl
    rw [hnx] at kk
    rw [hpc]
    exact lv_ineg hx1 hb hd kk
  · cases hx
theorem pm_s_lneg (C : pm_C p R s m args meth c T M b x ta D xs h0) (he : (mm_cd M)[j]? = some en) (hx : pm_x xs en j lv st h = some (.inl (j', lv', st', h'))) (k : pm_G p l e R s m args below meth c Q M b x ta D h0 j' lv' st' h') (hi : pi_i en = .lneg) : pm_G p l e R s m args below meth c Q M b x ta D h0 j lv st h := by
  obtain ⟨hx1, hb, hml, hown, hts, hK, hsz, hfr, hlo, hnm, hxr, hcM, hT⟩ := C
  have hck := pck_at hcM he (pm_x_live hx)
  have hd := pck_d1 hck (i := .lneg) hi rfl rfl
  have hnx := pck_nx hck (i := .lneg) hi rfl rfl rfl
  have hpc := pm_pc_at he
  unfold pm_x at hx
  rw [hi] at hx
  simp only [pm_l1, pm_nx] at hx
  split at hx
  · cases hx
    intro H locs ls hP hS hl
    have kk := k H locs ls hP hS hl
    rw [hnx] at kk
    rw [hpc]
    exact lv_lneg hx1 hb hd kk
  · cases hx
theorem pm_s_i2l (C : pm_C p R s m args meth c T M b x ta D xs h0) (he : (mm_cd M)[j]? = some en) (hx : pm_x xs en j lv st h = some (.inl (j', lv', st', h'))) (k : pm_G p l e R s m args below meth c Q M b x ta D h0 j' lv' st' h') (hi : pi_i en = .i2l) : pm_G p l e R s m args below meth c Q M b x ta D h0 j lv st h := by
  obtain ⟨hx1, hb, hml, hown, hts, hK, hsz, hfr, hlo, hnm, hxr, hcM, hT⟩ := C
  have hck := pck_at hcM he (pm_x_live hx)
  have hd := pck_d1 hck (i := .i2l) hi rfl rfl
  have hnx := pck_nx hck (i := .i2l) hi rfl rfl rfl
  have hpc := pm_pc_at he
  unfold pm_x at hx
  rw [hi] at hx
  simp only [pm_i1, pm_nx] at hx
  split at hx
  · cases hx
    intro H locs ls hP hS hl
    have kk := k H locs ls hP hS hl
    rw [hnx] at kk
    rw [hpc]
    exact lv_i2l hx1 hb hd rfl kk
  · cases hx
theorem pm_s_i2b (C : pm_C p R s m args meth c T M b x ta D xs h0) (he : (mm_cd M)[j]? = some en) (hx : pm_x xs en j lv st h = some (.inl (j', lv', st', h'))) (k : pm_G p l e R s m args below meth c Q M b x ta D h0 j' lv' st' h') (hi : pi_i en = .i2b) : pm_G p l e R s m args below meth c Q M b x ta D h0 j lv st h := by
  obtain ⟨hx1, hb, hml, hown, hts, hK, hsz, hfr, hlo, hnm, hxr, hcM, hT⟩ := C
  have hck := pck_at hcM he (pm_x_live hx)
  have hd := pck_d1 hck (i := .i2b) hi rfl rfl
  have hnx := pck_nx hck (i := .i2b) hi rfl rfl rfl
  have hpc := pm_pc_at he
  unfold pm_x at hx
  rw [hi] at hx
  simp only [pm_i1, pm_nx] at hx
  split at hx
  · cases hx
    intro H locs ls hP hS hl
    have kk := k H locs ls hP hS hl
    rw [hnx] at kk
    rw [hpc]
    exact lv_i2b hx1 hb hd rfl kk
  · cases hx
theorem pm_s_i2c (C : pm_C p R s m args meth c T M b x ta D xs h0) (he : (mm_cd M)[j]? = some en) (hx : pm_x xs en j lv st h = some (.inl (j', lv', st', h'))) (k : pm_G p l e R s m args below meth c Q M b x ta D h0 j' lv' st' h') (hi : pi_i en = .i2c) : pm_G p l e R s m args below meth c Q M b x ta D h0 j lv st h := by
  obtain ⟨hx1, hb, hml, hown, hts, hK, hsz, hfr, hlo, hnm, hxr, hcM, hT⟩ := C
  have hck := pck_at hcM he (pm_x_live hx)
  have hd := pck_d1 hck (i := .i2c) hi rfl rfl
  have hnx := pck_nx hck (i := .i2c) hi rfl rfl rfl
  have hpc := pm_pc_at he
  unfold pm_x at hx
  rw [hi] at hx
  simp only [pm_i1, pm_nx] at hx
  split at hx
  · cases hx
    intro H locs ls hP hS hl
    have kk := k H locs ls hP hS hl
    rw [hnx] at kk
    rw [hpc]
    exact lv_i2c hx1 hb hd rfl kk
  · cases hx
theorem pm_s_l2i (C : pm_C p R s m args meth c T M b x ta D xs h0) (he : (mm_cd M)[j]? = some en) (hx : pm_x xs en j lv st h = some (.inl (j', lv', st', h'))) (k : pm_G p l e R s m args below meth c Q M b x ta D h0 j' lv' st' h') (hi : pi_i en = .l2i) : pm_G p l e R s m args below meth c Q M b x ta D h0 j lv st h := by
  obtain ⟨hx1, hb, hml, hown, hts, hK, hsz, hfr, hlo, hnm, hxr, hcM, hT⟩ := C
  have hck := pck_at hcM he (pm_x_live hx)
  have hd := pck_d1 hck (i := .l2i) hi rfl rfl
  have hnx := pck_nx hck (i := .l2i) hi rfl rfl rfl
  have hpc := pm_pc_at he
  unfold pm_x at hx
  rw [hi] at hx
  simp only [pm_l1, pm_nx] at hx
  split at hx
  · cases hx
    intro H locs ls hP hS hl
    have kk := k H locs ls hP hS hl
    rw [hnx] at kk
    rw [hpc]
    exact lv_l2i hx1 hb hd rfl kk
  · cases hx
theorem pm_s_idiv (C : pm_C p R s m args meth c T M b x ta D xs h0) (he : (mm_cd M)[j]? = some en) (hx : pm_x xs en j lv st h = some (.inl (j', lv', st', h'))) (k : pm_G p l e R s m args below meth c Q M b x ta D h0 j' lv' st' h') (hi : pi_i en = .idiv) : pm_G p l e R s m args below meth c Q M b x ta D h0 j lv st h := by
  obtain ⟨hx1, hb, hml, hown, hts, hK, hsz, hfr, hlo, hnm, hxr, hcM, hT⟩ := C
  have hck := pck_at hcM he (pm_x_live hx)
  have hd := pck_d1 hck (i := .idiv) hi rfl rfl
  have hnx := pck_nx hck (i := .idiv) hi rfl rfl rfl
  have hpc := pm_pc_at he
  unfold pm_x at hx
  rw [hi] at hx
  simp only [pm_iz, pm_nx] at hx
  split at hx
  · split at hx
    · cases hx
    · rename_i hne
      cases hx
      intro H locs ls hP hS hl
      have kk := k H locs ls hP hS hl
      rw [hnx] at kk
      rw [hpc]
      exact lv_idiv hx1 hb hd hne kk
  · cases hx
theorem pm_s_irem (C : pm_C p R s m args meth c T M b x ta D xs h0) (he : (mm_cd M)[j]? = some en) (hx : pm_x xs en j lv st h = some (.inl (j', lv', st', h'))) (k : pm_G p l e R s m args below meth c Q M b x ta D h0 j' lv' st' h') (hi : pi_i en = .irem) : pm_G p l e R s m args below meth c Q M b x ta D h0 j lv st h := by
  obtain ⟨hx1, hb, hml, hown, hts, hK, hsz, hfr, hlo, hnm, hxr, hcM, hT⟩ := C
  have hck := pck_at hcM he (pm_x_live hx)
  have hd := pck_d1 hck (i := .irem) hi rfl rfl
  have hnx := pck_nx hck (i := .irem) hi rfl rfl rfl
  have hpc := pm_pc_at he
  unfold pm_x at hx
  rw [hi] at hx
  simp only [pm_iz, pm_nx] at hx
  split at hx
  · split at hx
    · cases hx
    · rename_i hne
      cases hx
      intro H locs ls hP hS hl
      have kk := k H locs ls hP hS hl
      rw [hnx] at kk
      rw [hpc]
      exact lv_irem hx1 hb hd hne kk
  · cases hx
theorem pm_s_ldiv (C : pm_C p R s m args meth c T M b x ta D xs h0) (he : (mm_cd M)[j]? = some en) (hx : pm_x xs en j lv st h = some (.inl (j', lv', st', h'))) (k : pm_G p l e R s m args below meth c Q M b x ta D h0 j' lv' st' h') (hi : pi_i en = .ldiv) : pm_G p l e R s m args below meth c Q M b x ta D h0 j lv st h := by
  obtain ⟨hx1, hb, hml, hown, hts, hK, hsz, hfr, hlo, hnm, hxr, hcM, hT⟩ := C
  have hck := pck_at hcM he (pm_x_live hx)
  have hd := pck_d1 hck (i := .ldiv) hi rfl rfl
  have hnx := pck_nx hck (i := .ldiv) hi rfl rfl rfl
  have hpc := pm_pc_at he
  unfold pm_x at hx
  rw [hi] at hx
  simp only [pm_lz, pm_nx] at hx
  split at hx
  · split at hx
    · cases hx
    · rename_i hne
      cases hx
      intro H locs ls hP hS hl
      have kk := k H locs ls hP hS hl
      rw [hnx] at kk
      rw [hpc]
      exact lv_ldiv hx1 hb hd hne kk
  · cases hx
theorem pm_s_lrem (C : pm_C p R s m args meth c T M b x ta D xs h0) (he : (mm_cd M)[j]? = some en) (hx : pm_x xs en j lv st h = some (.inl (j', lv', st', h'))) (k : pm_G p l e R s m args below meth c Q M b x ta D h0 j' lv' st' h') (hi : pi_i en = .lrem) : pm_G p l e R s m args below meth c Q M b x ta D h0 j lv st h := by
  obtain ⟨hx1, hb, hml, hown, hts, hK, hsz, hfr, hlo, hnm, hxr, hcM, hT⟩ := C
  have hck := pck_at hcM he (pm_x_live hx)
  have hd := pck_d1 hck (i := .lrem) hi rfl rfl
  have hnx := pck_nx hck (i := .lrem) hi rfl rfl rfl
  have hpc := pm_pc_at he
  unfold pm_x at hx
  rw [hi] at hx
  simp only [pm_lz, pm_nx] at hx
  split at hx
  · split at hx
    · cases hx
    · rename_i hne
      cases hx
      intro H locs ls hP hS hl
      have kk := k H locs ls hP hS hl
      rw [hnx] at kk
      rw [hpc]
      exact lv_lrem hx1 hb hd hne kk
  · cases hx
theorem pm_s_iload {i : Nat} (C : pm_C p R s m args meth c T M b x ta D xs h0) (he : (mm_cd M)[j]? = some en) (hx : pm_x xs en j lv st h = some (.inl (j', lv', st', h'))) (k : pm_G p l e R s m args below meth c Q M b x ta D h0 j' lv' st' h') (hi : pi_i en = .iload i) : pm_G p l e R s m args below meth c Q M b x ta D h0 j lv st h := by
  obtain ⟨hx1, hb, hml, hown, hts, hK, hsz, hfr, hlo, hnm, hxr, hcM, hT⟩ := C
  have hck := pck_at hcM he (pm_x_live hx)
  have hd := pck_d1 hck (i := .iload i) hi rfl rfl
  have hnx := pck_nx hck (i := .iload i) hi rfl rfl rfl
  have hpc := pm_pc_at he
  unfold pm_x at hx
  rw [hi] at hx
  simp only [pm_ild, pm_nx] at hx
  split at hx
  · rename_i hq
    cases hx
    intro H locs ls hP hS hl
    have kk := k H locs ls hP hS hl
    rw [hnx] at kk
    rw [hpc]
    exact lv_iload hx1 hb hd (pm_lv_at hl hq) kk
  · cases hx
theorem pm_s_iload_n {i : Fin 4} (C : pm_C p R s m args meth c T M b x ta D xs h0) (he : (mm_cd M)[j]? = some en) (hx : pm_x xs en j lv st h = some (.inl (j', lv', st', h'))) (k : pm_G p l e R s m args below meth c Q M b x ta D h0 j' lv' st' h') (hi : pi_i en = .iload_n i) : pm_G p l e R s m args below meth c Q M b x ta D h0 j lv st h := by
  obtain ⟨hx1, hb, hml, hown, hts, hK, hsz, hfr, hlo, hnm, hxr, hcM, hT⟩ := C
  have hck := pck_at hcM he (pm_x_live hx)
  have hd := pck_d1 hck (i := .iload_n i) hi rfl rfl
  have hnx := pck_nx hck (i := .iload_n i) hi rfl rfl rfl
  have hpc := pm_pc_at he
  unfold pm_x at hx
  rw [hi] at hx
  simp only [pm_ild, pm_nx] at hx
  split at hx
  · rename_i hq
    cases hx
    intro H locs ls hP hS hl
    have kk := k H locs ls hP hS hl
    rw [hnx] at kk
    rw [hpc]
    exact lv_iload_n hx1 hb hd rfl (pm_lv_at hl hq) kk
  · cases hx
theorem pm_s_lload {i : Nat} (C : pm_C p R s m args meth c T M b x ta D xs h0) (he : (mm_cd M)[j]? = some en) (hx : pm_x xs en j lv st h = some (.inl (j', lv', st', h'))) (k : pm_G p l e R s m args below meth c Q M b x ta D h0 j' lv' st' h') (hi : pi_i en = .lload i) : pm_G p l e R s m args below meth c Q M b x ta D h0 j lv st h := by
  obtain ⟨hx1, hb, hml, hown, hts, hK, hsz, hfr, hlo, hnm, hxr, hcM, hT⟩ := C
  have hck := pck_at hcM he (pm_x_live hx)
  have hd := pck_d1 hck (i := .lload i) hi rfl rfl
  have hnx := pck_nx hck (i := .lload i) hi rfl rfl rfl
  have hpc := pm_pc_at he
  unfold pm_x at hx
  rw [hi] at hx
  simp only [pm_lld, pm_nx] at hx
  split at hx
  · rename_i hq
    cases hx
    intro H locs ls hP hS hl
    have kk := k H locs ls hP hS hl
    rw [hnx] at kk
    rw [hpc]
    exact lv_lload hx1 hb hd (pm_lv_at hl hq) kk
  · cases hx
theorem pm_s_lload_n {i : Fin 4} (C : pm_C p R s m args meth c T M b x ta D xs h0) (he : (mm_cd M)[j]? = some en) (hx : pm_x xs en j lv st h = some (.inl (j', lv', st', h'))) (k : pm_G p l e R s m args below meth c Q M b x ta D h0 j' lv' st' h') (hi : pi_i en = .lload_n i) : pm_G p l e R s m args below meth c Q M b x ta D h0 j lv st h := by
  obtain ⟨hx1, hb, hml, hown, hts, hK, hsz, hfr, hlo, hnm, hxr, hcM, hT⟩ := C
  have hck := pck_at hcM he (pm_x_live hx)
  have hd := pck_d1 hck (i := .lload_n i) hi rfl rfl
  have hnx := pck_nx hck (i := .lload_n i) hi rfl rfl rfl
  have hpc := pm_pc_at he
  unfold pm_x at hx
  rw [hi] at hx
  simp only [pm_lld, pm_nx] at hx
  split at hx
  · rename_i hq
    cases hx
    intro H locs ls hP hS hl
    have kk := k H locs ls hP hS hl
    rw [hnx] at kk
    rw [hpc]
    exact lv_lload_n hx1 hb hd rfl (pm_lv_at hl hq) kk
  · cases hx
theorem pm_s_aload {i : Nat} (C : pm_C p R s m args meth c T M b x ta D xs h0) (he : (mm_cd M)[j]? = some en) (hx : pm_x xs en j lv st h = some (.inl (j', lv', st', h'))) (k : pm_G p l e R s m args below meth c Q M b x ta D h0 j' lv' st' h') (hi : pi_i en = .aload i) : pm_G p l e R s m args below meth c Q M b x ta D h0 j lv st h := by
  obtain ⟨hx1, hb, hml, hown, hts, hK, hsz, hfr, hlo, hnm, hxr, hcM, hT⟩ := C
  have hck := pck_at hcM he (pm_x_live hx)
  have hd := pck_d1 hck (i := .aload i) hi rfl rfl
  have hnx := pck_nx hck (i := .aload i) hi rfl rfl rfl
  have hpc := pm_pc_at he
  unfold pm_x at hx
  rw [hi] at hx
  simp only [pm_ald, pm_nx] at hx
  split at hx
  · rename_i hq
    cases hx
    intro H locs ls hP hS hl
    have kk := k H locs ls hP hS hl
    rw [hnx] at kk
    rw [hpc]
    exact lv_aload hx1 hb hd (pm_lv_at hl hq) kk
  · rename_i hq
    cases hx
    intro H locs ls hP hS hl
    have kk := k H locs ls hP hS hl
    rw [hnx] at kk
    rw [hpc]
    exact lv_aloadN hx1 hb hd (pm_lv_at hl hq) kk
  · rename_i q hq
    cases hx
    intro H locs ls hP hS hl
    have kk := k H locs ls hP hS hl
    rw [hnx] at kk
    rw [hpc]
    have h9 := pm_lv_at hl hq
    rw [List.map_cons] at kk
    rw [show pm_v b x (.retAddr q) = x q from rfl] at h9 kk
    rcases hxr q with z | ⟨a, z⟩
    · rw [z] at h9 kk
      exact lv_aloadN hx1 hb hd h9 kk
    · rw [z] at h9 kk
      exact lv_aload hx1 hb hd h9 kk
  · cases hx
theorem pm_s_aload_n {i : Fin 4} (C : pm_C p R s m args meth c T M b x ta D xs h0) (he : (mm_cd M)[j]? = some en) (hx : pm_x xs en j lv st h = some (.inl (j', lv', st', h'))) (k : pm_G p l e R s m args below meth c Q M b x ta D h0 j' lv' st' h') (hi : pi_i en = .aload_n i) : pm_G p l e R s m args below meth c Q M b x ta D h0 j lv st h := by
  obtain ⟨hx1, hb, hml, hown, hts, hK, hsz, hfr, hlo, hnm, hxr, hcM, hT⟩ := C
  have hck := pck_at hcM he (pm_x_live hx)
  have hd := pck_d1 hck (i := .aload_n i) hi rfl rfl
  have hnx := pck_nx hck (i := .aload_n i) hi rfl rfl rfl
  have hpc := pm_pc_at he
  unfold pm_x at hx
  rw [hi] at hx
  simp only [pm_ald, pm_nx] at hx
  split at hx
  · rename_i hq
    cases hx
    intro H locs ls hP hS hl
    have kk := k H locs ls hP hS hl
    rw [hnx] at kk
    rw [hpc]
    exact lv_aload_n hx1 hb hd rfl (pm_lv_at hl hq) kk
  · rename_i hq
    cases hx
    intro H locs ls hP hS hl
    have kk := k H locs ls hP hS hl
    rw [hnx] at kk
    rw [hpc]
    exact lv_aload_nN hx1 hb hd rfl (pm_lv_at hl hq) kk
  · rename_i q hq
    cases hx
    intro H locs ls hP hS hl
    have kk := k H locs ls hP hS hl
    rw [hnx] at kk
    rw [hpc]
    have h9 := pm_lv_at hl hq
    rw [List.map_cons] at kk
    rw [show pm_v b x (.retAddr q) = x q from rfl] at h9 kk
    rcases hxr q with z | ⟨a, z⟩
    · rw [z] at h9 kk
      exact lv_aload_nN hx1 hb hd rfl h9 kk
    · rw [z] at h9 kk
      exact lv_aload_n hx1 hb hd rfl h9 kk
  · cases hx
theorem pm_s_istore {i : Nat} (C : pm_C p R s m args meth c T M b x ta D xs h0) (he : (mm_cd M)[j]? = some en) (hx : pm_x xs en j lv st h = some (.inl (j', lv', st', h'))) (k : pm_G p l e R s m args below meth c Q M b x ta D h0 j' lv' st' h') (hi : pi_i en = .istore i) : pm_G p l e R s m args below meth c Q M b x ta D h0 j lv st h := by
  obtain ⟨hx1, hb, hml, hown, hts, hK, hsz, hfr, hlo, hnm, hxr, hcM, hT⟩ := C
  have hck := pck_at hcM he (pm_x_live hx)
  have hd := pck_d1 hck (i := .istore i) hi rfl rfl
  have hnx := pck_nx hck (i := .istore i) hi rfl rfl rfl
  have hpc := pm_pc_at he
  unfold pm_x at hx
  rw [hi] at hx
  have hc2 := hck
  simp only [pm_ck, hi, Bool.and_eq_true, decide_eq_true_eq] at hc2
  simp only [pm_ist, pm_nx] at hx
  split at hx
  · cases hx
    intro H locs ls hP hS hl
    rw [hpc]
    refine lv_istore hx1 hb hd hl hc2.2 rfl (fun ls2 hl2 => ?_)
    have kk := k H locs ls2 hP hS (pm_lv_st1 (pm_xc hxr) hl2)
    rw [hnx] at kk
    exact kk
  · cases hx
theorem pm_s_istore_n {i : Fin 4} (C : pm_C p R s m args meth c T M b x ta D xs h0) (he : (mm_cd M)[j]? = some en) (hx : pm_x xs en j lv st h = some (.inl (j', lv', st', h'))) (k : pm_G p l e R s m args below meth c Q M b x ta D h0 j' lv' st' h') (hi : pi_i en = .istore_n i) : pm_G p l e R s m args below meth c Q M b x ta D h0 j lv st h := by
  obtain ⟨hx1, hb, hml, hown, hts, hK, hsz, hfr, hlo, hnm, hxr, hcM, hT⟩ := C
  have hck := pck_at hcM he (pm_x_live hx)
  have hd := pck_d1 hck (i := .istore_n i) hi rfl rfl
  have hnx := pck_nx hck (i := .istore_n i) hi rfl rfl rfl
  have hpc := pm_pc_at he
  unfold pm_x at hx
  rw [hi] at hx
  have hc2 := hck
  simp only [pm_ck, hi, Bool.and_eq_true, decide_eq_true_eq] at hc2
  simp only [pm_ist, pm_nx] at hx
  split at hx
  · cases hx
    intro H locs ls hP hS hl
    rw [hpc]
    refine lv_istore_n hx1 hb hd rfl hl hc2.2 rfl (fun ls2 hl2 => ?_)
    have kk := k H locs ls2 hP hS (pm_lv_st1 (pm_xc hxr) hl2)
    rw [hnx] at kk
    exact kk
  · cases hx
theorem pm_s_lstore {i : Nat} (C : pm_C p R s m args meth c T M b x ta D xs h0) (he : (mm_cd M)[j]? = some en) (hx : pm_x xs en j lv st h = some (.inl (j', lv', st', h'))) (k : pm_G p l e R s m args below meth c Q M b x ta D h0 j' lv' st' h') (hi : pi_i en = .lstore i) : pm_G p l e R s m args below meth c Q M b x ta D h0 j lv st h := by
  obtain ⟨hx1, hb, hml, hown, hts, hK, hsz, hfr, hlo, hnm, hxr, hcM, hT⟩ := C
  have hck := pck_at hcM he (pm_x_live hx)
  have hd := pck_d1 hck (i := .lstore i) hi rfl rfl
  have hnx := pck_nx hck (i := .lstore i) hi rfl rfl rfl
  have hpc := pm_pc_at he
  unfold pm_x at hx
  rw [hi] at hx
  have hc2 := hck
  simp only [pm_ck, hi, Bool.and_eq_true, decide_eq_true_eq] at hc2
  simp only [pm_lst, pm_nx] at hx
  split at hx
  · cases hx
    intro H locs ls hP hS hl
    rw [hpc]
    refine lv_lstore hx1 hb hd hl hc2.2 rfl (fun ls2 hl2 => ?_)
    have kk := k H locs ls2 hP hS (pm_lv_st2 (pm_xc hxr) hl2)
    rw [hnx] at kk
    exact kk
  · cases hx
theorem pm_s_lstore_n {i : Fin 4} (C : pm_C p R s m args meth c T M b x ta D xs h0) (he : (mm_cd M)[j]? = some en) (hx : pm_x xs en j lv st h = some (.inl (j', lv', st', h'))) (k : pm_G p l e R s m args below meth c Q M b x ta D h0 j' lv' st' h') (hi : pi_i en = .lstore_n i) : pm_G p l e R s m args below meth c Q M b x ta D h0 j lv st h := by
  obtain ⟨hx1, hb, hml, hown, hts, hK, hsz, hfr, hlo, hnm, hxr, hcM, hT⟩ := C
  have hck := pck_at hcM he (pm_x_live hx)
  have hd := pck_d1 hck (i := .lstore_n i) hi rfl rfl
  have hnx := pck_nx hck (i := .lstore_n i) hi rfl rfl rfl
  have hpc := pm_pc_at he
  unfold pm_x at hx
  rw [hi] at hx
  have hc2 := hck
  simp only [pm_ck, hi, Bool.and_eq_true, decide_eq_true_eq] at hc2
  simp only [pm_lst, pm_nx] at hx
  split at hx
  · cases hx
    intro H locs ls hP hS hl
    rw [hpc]
    refine lv_lstore_n hx1 hb hd rfl hl hc2.2 rfl (fun ls2 hl2 => ?_)
    have kk := k H locs ls2 hP hS (pm_lv_st2 (pm_xc hxr) hl2)
    rw [hnx] at kk
    exact kk
  · cases hx
theorem pm_s_astore_n {i : Fin 4} (C : pm_C p R s m args meth c T M b x ta D xs h0) (he : (mm_cd M)[j]? = some en) (hx : pm_x xs en j lv st h = some (.inl (j', lv', st', h'))) (k : pm_G p l e R s m args below meth c Q M b x ta D h0 j' lv' st' h') (hi : pi_i en = .astore_n i) : pm_G p l e R s m args below meth c Q M b x ta D h0 j lv st h := by
  obtain ⟨hx1, hb, hml, hown, hts, hK, hsz, hfr, hlo, hnm, hxr, hcM, hT⟩ := C
  have hck := pck_at hcM he (pm_x_live hx)
  have hd := pck_d1 hck (i := .astore_n i) hi rfl rfl
  have hnx := pck_nx hck (i := .astore_n i) hi rfl rfl rfl
  have hpc := pm_pc_at he
  unfold pm_x at hx
  rw [hi] at hx
  have hc2 := hck
  simp only [pm_ck, hi, Bool.and_eq_true, decide_eq_true_eq] at hc2
  simp only [pm_ast, pm_nx] at hx
  split at hx
  · cases hx
    intro H locs ls hP hS hl
    rw [hpc]
    refine lv_astore_n hx1 hb hd rfl hl hc2.2 rfl (fun ls2 hl2 => ?_)
    have kk := k H locs ls2 hP hS (pm_lv_st1 (pm_xc hxr) hl2)
    rw [hnx] at kk
    exact kk
  · cases hx
theorem pm_s_iinc {i : Nat} {n : Int} (C : pm_C p R s m args meth c T M b x ta D xs h0) (he : (mm_cd M)[j]? = some en) (hx : pm_x xs en j lv st h = some (.inl (j', lv', st', h'))) (k : pm_G p l e R s m args below meth c Q M b x ta D h0 j' lv' st' h') (hi : pi_i en = .iinc i n) : pm_G p l e R s m args below meth c Q M b x ta D h0 j lv st h := by
  obtain ⟨hx1, hb, hml, hown, hts, hK, hsz, hfr, hlo, hnm, hxr, hcM, hT⟩ := C
  have hck := pck_at hcM he (pm_x_live hx)
  have hd := pck_d1 hck (i := .iinc i n) hi rfl rfl
  have hnx := pck_nx hck (i := .iinc i n) hi rfl rfl rfl
  have hpc := pm_pc_at he
  unfold pm_x at hx
  rw [hi] at hx
  have hc2 := hck
  simp only [pm_ck, hi, Bool.and_eq_true, decide_eq_true_eq] at hc2
  simp only [pm_inc, pm_nx] at hx
  split at hx
  · rename_i xv hq
    cases hx
    intro H locs ls hP hS hl
    rw [hpc]
    obtain ⟨k9, hk9⟩ := List.getElem?_of_mem (pm_as_mem.mpr ⟨_, hq, rfl⟩ : (i, pm_v b x (.int xv)) ∈ pm_as b x lv)
    refine lv_iinc hx1 hb hd hl hk9 rfl hc2.2 rfl (fun ls2 hl2 => ?_)
    have kk := k H locs ls2 hP hS (pm_lv_st1 (v := .int (xv + Int32.ofInt n)) (pm_xc hxr) hl2)
    rw [hnx] at kk
    exact kk
  · cases hx
theorem pm_s_dup (C : pm_C p R s m args meth c T M b x ta D xs h0) (he : (mm_cd M)[j]? = some en) (hx : pm_x xs en j lv st h = some (.inl (j', lv', st', h'))) (k : pm_G p l e R s m args below meth c Q M b x ta D h0 j' lv' st' h') (hi : pi_i en = .dup) : pm_G p l e R s m args below meth c Q M b x ta D h0 j lv st h := by
  obtain ⟨hx1, hb, hml, hown, hts, hK, hsz, hfr, hlo, hnm, hxr, hcM, hT⟩ := C
  have hck := pck_at hcM he (pm_x_live hx)
  have hd := pck_d1 hck (i := .dup) hi rfl rfl
  have hnx := pck_nx hck (i := .dup) hi rfl rfl rfl
  have hpc := pm_pc_at he
  unfold pm_x at hx
  rw [hi] at hx
  simp only [pm_dup, pm_nx] at hx
  split at hx
  · cases hx
    intro H locs ls hP hS hl
    have kk := k H locs ls hP hS hl
    rw [hnx] at kk
    rw [hpc]
    exact lv_dup hx1 hb hd rfl kk
  · cases hx
    intro H locs ls hP hS hl
    have kk := k H locs ls hP hS hl
    rw [hnx] at kk
    rw [hpc]
    exact lv_dup hx1 hb hd rfl kk
  · cases hx
theorem pm_s_dup2 (C : pm_C p R s m args meth c T M b x ta D xs h0) (he : (mm_cd M)[j]? = some en) (hx : pm_x xs en j lv st h = some (.inl (j', lv', st', h'))) (k : pm_G p l e R s m args below meth c Q M b x ta D h0 j' lv' st' h') (hi : pi_i en = .dup2) : pm_G p l e R s m args below meth c Q M b x ta D h0 j lv st h := by
  obtain ⟨hx1, hb, hml, hown, hts, hK, hsz, hfr, hlo, hnm, hxr, hcM, hT⟩ := C
  have hck := pck_at hcM he (pm_x_live hx)
  have hd := pck_d1 hck (i := .dup2) hi rfl rfl
  have hnx := pck_nx hck (i := .dup2) hi rfl rfl rfl
  have hpc := pm_pc_at he
  unfold pm_x at hx
  rw [hi] at hx
  simp only [pm_dup2, pm_nx] at hx
  split at hx
  · cases hx
    intro H locs ls hP hS hl
    have kk := k H locs ls hP hS hl
    rw [hnx] at kk
    rw [hpc]
    exact lv_dup2_11 hx1 hb hd rfl rfl kk
  · cases hx
theorem pm_s_pop (C : pm_C p R s m args meth c T M b x ta D xs h0) (he : (mm_cd M)[j]? = some en) (hx : pm_x xs en j lv st h = some (.inl (j', lv', st', h'))) (k : pm_G p l e R s m args below meth c Q M b x ta D h0 j' lv' st' h') (hi : pi_i en = .pop) : pm_G p l e R s m args below meth c Q M b x ta D h0 j lv st h := by
  obtain ⟨hx1, hb, hml, hown, hts, hK, hsz, hfr, hlo, hnm, hxr, hcM, hT⟩ := C
  have hck := pck_at hcM he (pm_x_live hx)
  have hd := pck_d1 hck (i := .pop) hi rfl rfl
  have hnx := pck_nx hck (i := .pop) hi rfl rfl rfl
  have hpc := pm_pc_at he
  unfold pm_x at hx
  rw [hi] at hx
  simp only [pm_pop, pm_nx] at hx
  split at hx
  · cases hx
    intro H locs ls hP hS hl
    have kk := k H locs ls hP hS hl
    rw [hnx] at kk
    rw [hpc]
    exact lv_pop hx1 hb hd rfl kk
  · cases hx
theorem pm_s_goto {off : Int} (C : pm_C p R s m args meth c T M b x ta D xs h0) (he : (mm_cd M)[j]? = some en) (hx : pm_x xs en j lv st h = some (.inl (j', lv', st', h'))) (k : pm_G p l e R s m args below meth c Q M b x ta D h0 j' lv' st' h') (hi : pi_i en = .goto off) : pm_G p l e R s m args below meth c Q M b x ta D h0 j lv st h := by
  obtain ⟨hx1, hb, hml, hown, hts, hK, hsz, hfr, hlo, hnm, hxr, hcM, hT⟩ := C
  have hck := pck_at hcM he (pm_x_live hx)
  have hd := pck_d1 hck (i := .goto off) hi rfl rfl
  have hpc := pm_pc_at he
  have hc2 := hck
  simp only [pm_ck, hi, Bool.and_eq_true, decide_eq_true_eq] at hc2
  unfold pm_x at hx
  rw [hi] at hx
  simp only [pm_nx] at hx
  cases hx
  intro H locs ls hP hS hl
  have kk := k H locs ls hP hS hl
  rw [hpc]
  exact lv_goto hx1 hb hd hc2.2 kk
theorem pm_s_if_eq {off : Int} (C : pm_C p R s m args meth c T M b x ta D xs h0) (he : (mm_cd M)[j]? = some en) (hx : pm_x xs en j lv st h = some (.inl (j', lv', st', h'))) (k : pm_G p l e R s m args below meth c Q M b x ta D h0 j' lv' st' h') (hi : pi_i en = .ifCond .eq off) : pm_G p l e R s m args below meth c Q M b x ta D h0 j lv st h := by
  obtain ⟨hx1, hb, hml, hown, hts, hK, hsz, hfr, hlo, hnm, hxr, hcM, hT⟩ := C
  have hck := pck_at hcM he (pm_x_live hx)
  have hd := pck_d1 hck (i := .ifCond .eq off) hi rfl rfl
  have hnx := pck_nx hck (i := .ifCond .eq off) hi rfl rfl rfl
  have hpc := pm_pc_at he
  have hc2 := hck
  simp only [pm_ck, hi, Bool.and_eq_true, decide_eq_true_eq] at hc2
  unfold pm_x at hx
  rw [hi] at hx
  simp only [pm_if, pm_br, pm_nx] at hx
  split at hx
  · intro H locs ls hP hS hl
    rw [hpc]
    refine lv_if_eq hx1 hb hd hc2.2 (fun z => ?_) (fun z => ?_)
    · first | rw [if_pos z] at hx | rw [if_neg z] at hx
      cases hx
      exact k H locs ls hP hS hl
    · first | rw [if_neg z] at hx | rw [if_pos z] at hx
      cases hx
      have kk := k H locs ls hP hS hl
      rw [hnx] at kk
      exact kk
  · cases hx
theorem pm_s_ic_eq {off : Int} (C : pm_C p R s m args meth c T M b x ta D xs h0) (he : (mm_cd M)[j]? = some en) (hx : pm_x xs en j lv st h = some (.inl (j', lv', st', h'))) (k : pm_G p l e R s m args below meth c Q M b x ta D h0 j' lv' st' h') (hi : pi_i en = .if_icmp .eq off) : pm_G p l e R s m args below meth c Q M b x ta D h0 j lv st h := by
  obtain ⟨hx1, hb, hml, hown, hts, hK, hsz, hfr, hlo, hnm, hxr, hcM, hT⟩ := C
  have hck := pck_at hcM he (pm_x_live hx)
  have hd := pck_d1 hck (i := .if_icmp .eq off) hi rfl rfl
  have hnx := pck_nx hck (i := .if_icmp .eq off) hi rfl rfl rfl
  have hpc := pm_pc_at he
  have hc2 := hck
  simp only [pm_ck, hi, Bool.and_eq_true, decide_eq_true_eq] at hc2
  unfold pm_x at hx
  rw [hi] at hx
  simp only [pm_ic, pm_br, pm_nx] at hx
  split at hx
  · intro H locs ls hP hS hl
    rw [hpc]
    refine lv_icmp_eq hx1 hb hd hc2.2 (fun z => ?_) (fun z => ?_)
    · first | rw [if_pos z] at hx | rw [if_neg z] at hx
      cases hx
      exact k H locs ls hP hS hl
    · first | rw [if_neg z] at hx | rw [if_pos z] at hx
      cases hx
      have kk := k H locs ls hP hS hl
      rw [hnx] at kk
      exact kk
  · cases hx
theorem pm_s_if_ne {off : Int} (C : pm_C p R s m args meth c T M b x ta D xs h0) (he : (mm_cd M)[j]? = some en) (hx : pm_x xs en j lv st h = some (.inl (j', lv', st', h'))) (k : pm_G p l e R s m args below meth c Q M b x ta D h0 j' lv' st' h') (hi : pi_i en = .ifCond .ne off) : pm_G p l e R s m args below meth c Q M b x ta D h0 j lv st h := by
  obtain ⟨hx1, hb, hml, hown, hts, hK, hsz, hfr, hlo, hnm, hxr, hcM, hT⟩ := C
  have hck := pck_at hcM he (pm_x_live hx)
  have hd := pck_d1 hck (i := .ifCond .ne off) hi rfl rfl
  have hnx := pck_nx hck (i := .ifCond .ne off) hi rfl rfl rfl
  have hpc := pm_pc_at he
  have hc2 := hck
  simp only [pm_ck, hi, Bool.and_eq_true, decide_eq_true_eq] at hc2
  unfold pm_x at hx
  rw [hi] at hx
  simp only [pm_if, pm_br, pm_nx] at hx
  split at hx
  · intro H locs ls hP hS hl
    rw [hpc]
    refine lv_if_ne hx1 hb hd hc2.2 (fun z => ?_) (fun z => ?_)
    · first | rw [if_pos z] at hx | rw [if_neg z] at hx
      cases hx
      exact k H locs ls hP hS hl
    · first | rw [if_neg z] at hx | rw [if_pos z] at hx
      cases hx
      have kk := k H locs ls hP hS hl
      rw [hnx] at kk
      exact kk
  · cases hx
theorem pm_s_ic_ne {off : Int} (C : pm_C p R s m args meth c T M b x ta D xs h0) (he : (mm_cd M)[j]? = some en) (hx : pm_x xs en j lv st h = some (.inl (j', lv', st', h'))) (k : pm_G p l e R s m args below meth c Q M b x ta D h0 j' lv' st' h') (hi : pi_i en = .if_icmp .ne off) : pm_G p l e R s m args below meth c Q M b x ta D h0 j lv st h := by
  obtain ⟨hx1, hb, hml, hown, hts, hK, hsz, hfr, hlo, hnm, hxr, hcM, hT⟩ := C
  have hck := pck_at hcM he (pm_x_live hx)
  have hd := pck_d1 hck (i := .if_icmp .ne off) hi rfl rfl
  have hnx := pck_nx hck (i := .if_icmp .ne off) hi rfl rfl rfl
  have hpc := pm_pc_at he
  have hc2 := hck
  simp only [pm_ck, hi, Bool.and_eq_true, decide_eq_true_eq] at hc2
  unfold pm_x at hx
  rw [hi] at hx
  simp only [pm_ic, pm_br, pm_nx] at hx
  split at hx
  · intro H locs ls hP hS hl
    rw [hpc]
    refine lv_icmp_ne hx1 hb hd hc2.2 (fun z => ?_) (fun z => ?_)
    · first | rw [if_pos z] at hx | rw [if_neg z] at hx
      cases hx
      exact k H locs ls hP hS hl
    · first | rw [if_neg z] at hx | rw [if_pos z] at hx
      cases hx
      have kk := k H locs ls hP hS hl
      rw [hnx] at kk
      exact kk
  · cases hx
theorem pm_s_if_lt {off : Int} (C : pm_C p R s m args meth c T M b x ta D xs h0) (he : (mm_cd M)[j]? = some en) (hx : pm_x xs en j lv st h = some (.inl (j', lv', st', h'))) (k : pm_G p l e R s m args below meth c Q M b x ta D h0 j' lv' st' h') (hi : pi_i en = .ifCond .lt off) : pm_G p l e R s m args below meth c Q M b x ta D h0 j lv st h := by
  obtain ⟨hx1, hb, hml, hown, hts, hK, hsz, hfr, hlo, hnm, hxr, hcM, hT⟩ := C
  have hck := pck_at hcM he (pm_x_live hx)
  have hd := pck_d1 hck (i := .ifCond .lt off) hi rfl rfl
  have hnx := pck_nx hck (i := .ifCond .lt off) hi rfl rfl rfl
  have hpc := pm_pc_at he
  have hc2 := hck
  simp only [pm_ck, hi, Bool.and_eq_true, decide_eq_true_eq] at hc2
  unfold pm_x at hx
  rw [hi] at hx
  simp only [pm_if, pm_br, pm_nx] at hx
  split at hx
  · intro H locs ls hP hS hl
    rw [hpc]
    refine lv_if_lt hx1 hb hd hc2.2 (fun z => ?_) (fun z => ?_)
    · first | rw [if_pos z] at hx | rw [if_neg z] at hx
      cases hx
      exact k H locs ls hP hS hl
    · first | rw [if_neg z] at hx | rw [if_pos z] at hx
      cases hx
      have kk := k H locs ls hP hS hl
      rw [hnx] at kk
      exact kk
  · cases hx
theorem pm_s_ic_lt {off : Int} (C : pm_C p R s m args meth c T M b x ta D xs h0) (he : (mm_cd M)[j]? = some en) (hx : pm_x xs en j lv st h = some (.inl (j', lv', st', h'))) (k : pm_G p l e R s m args below meth c Q M b x ta D h0 j' lv' st' h') (hi : pi_i en = .if_icmp .lt off) : pm_G p l e R s m args below meth c Q M b x ta D h0 j lv st h := by
  obtain ⟨hx1, hb, hml, hown, hts, hK, hsz, hfr, hlo, hnm, hxr, hcM, hT⟩ := C
  have hck := pck_at hcM he (pm_x_live hx)
  have hd := pck_d1 hck (i := .if_icmp .lt off) hi rfl rfl
  have hnx := pck_nx hck (i := .if_icmp .lt off) hi rfl rfl rfl
  have hpc := pm_pc_at he
  have hc2 := hck
  simp only [pm_ck, hi, Bool.and_eq_true, decide_eq_true_eq] at hc2
  unfold pm_x at hx
  rw [hi] at hx
  simp only [pm_ic, pm_br, pm_nx] at hx
  split at hx
  · intro H locs ls hP hS hl
    rw [hpc]
    refine lv_icmp_lt hx1 hb hd hc2.2 (fun z => ?_) (fun z => ?_)
    · first | rw [if_pos z] at hx | rw [if_neg z] at hx
      cases hx
      exact k H locs ls hP hS hl
    · first | rw [if_neg z] at hx | rw [if_pos z] at hx
      cases hx
      have kk := k H locs ls hP hS hl
      rw [hnx] at kk
      exact kk
  · cases hx
theorem pm_s_if_ge {off : Int} (C : pm_C p R s m args meth c T M b x ta D xs h0) (he : (mm_cd M)[j]? = some en) (hx : pm_x xs en j lv st h = some (.inl (j', lv', st', h'))) (k : pm_G p l e R s m args below meth c Q M b x ta D h0 j' lv' st' h') (hi : pi_i en = .ifCond .ge off) : pm_G p l e R s m args below meth c Q M b x ta D h0 j lv st h := by
  obtain ⟨hx1, hb, hml, hown, hts, hK, hsz, hfr, hlo, hnm, hxr, hcM, hT⟩ := C
  have hck := pck_at hcM he (pm_x_live hx)
  have hd := pck_d1 hck (i := .ifCond .ge off) hi rfl rfl
  have hnx := pck_nx hck (i := .ifCond .ge off) hi rfl rfl rfl
  have hpc := pm_pc_at he
  have hc2 := hck
  simp only [pm_ck, hi, Bool.and_eq_true, decide_eq_true_eq] at hc2
  unfold pm_x at hx
  rw [hi] at hx
  simp only [pm_if, pm_br, pm_nx] at hx
  split at hx
  · intro H locs ls hP hS hl
    rw [hpc]
    refine lv_if_ge hx1 hb hd hc2.2 (fun z => ?_) (fun z => ?_)
    · first | rw [if_pos z] at hx | rw [if_neg z] at hx
      cases hx
      exact k H locs ls hP hS hl
    · first | rw [if_neg z] at hx | rw [if_pos z] at hx
      cases hx
      have kk := k H locs ls hP hS hl
      rw [hnx] at kk
      exact kk
  · cases hx
theorem pm_s_ic_ge {off : Int} (C : pm_C p R s m args meth c T M b x ta D xs h0) (he : (mm_cd M)[j]? = some en) (hx : pm_x xs en j lv st h = some (.inl (j', lv', st', h'))) (k : pm_G p l e R s m args below meth c Q M b x ta D h0 j' lv' st' h') (hi : pi_i en = .if_icmp .ge off) : pm_G p l e R s m args below meth c Q M b x ta D h0 j lv st h := by
  obtain ⟨hx1, hb, hml, hown, hts, hK, hsz, hfr, hlo, hnm, hxr, hcM, hT⟩ := C
  have hck := pck_at hcM he (pm_x_live hx)
  have hd := pck_d1 hck (i := .if_icmp .ge off) hi rfl rfl
  have hnx := pck_nx hck (i := .if_icmp .ge off) hi rfl rfl rfl
  have hpc := pm_pc_at he
  have hc2 := hck
  simp only [pm_ck, hi, Bool.and_eq_true, decide_eq_true_eq] at hc2
  unfold pm_x at hx
  rw [hi] at hx
  simp only [pm_ic, pm_br, pm_nx] at hx
  split at hx
  · intro H locs ls hP hS hl
    rw [hpc]
    refine lv_icmp_ge hx1 hb hd hc2.2 (fun z => ?_) (fun z => ?_)
    · first | rw [if_pos z] at hx | rw [if_neg z] at hx
      cases hx
      exact k H locs ls hP hS hl
    · first | rw [if_neg z] at hx | rw [if_pos z] at hx
      cases hx
      have kk := k H locs ls hP hS hl
      rw [hnx] at kk
      exact kk
  · cases hx
theorem pm_s_if_gt {off : Int} (C : pm_C p R s m args meth c T M b x ta D xs h0) (he : (mm_cd M)[j]? = some en) (hx : pm_x xs en j lv st h = some (.inl (j', lv', st', h'))) (k : pm_G p l e R s m args below meth c Q M b x ta D h0 j' lv' st' h') (hi : pi_i en = .ifCond .gt off) : pm_G p l e R s m args below meth c Q M b x ta D h0 j lv st h := by
  obtain ⟨hx1, hb, hml, hown, hts, hK, hsz, hfr, hlo, hnm, hxr, hcM, hT⟩ := C
  have hck := pck_at hcM he (pm_x_live hx)
  have hd := pck_d1 hck (i := .ifCond .gt off) hi rfl rfl
  have hnx := pck_nx hck (i := .ifCond .gt off) hi rfl rfl rfl
  have hpc := pm_pc_at he
  have hc2 := hck
  simp only [pm_ck, hi, Bool.and_eq_true, decide_eq_true_eq] at hc2
  unfold pm_x at hx
  rw [hi] at hx
  simp only [pm_if, pm_br, pm_nx] at hx
  split at hx
  · intro H locs ls hP hS hl
    rw [hpc]
    refine lv_if_gt hx1 hb hd hc2.2 (fun z => ?_) (fun z => ?_)
    · first | rw [if_pos z] at hx | rw [if_neg z] at hx
      cases hx
      exact k H locs ls hP hS hl
    · first | rw [if_neg z] at hx | rw [if_pos z] at hx
      cases hx
      have kk := k H locs ls hP hS hl
      rw [hnx] at kk
      exact kk
  · cases hx
theorem pm_s_ic_gt {off : Int} (C : pm_C p R s m args meth c T M b x ta D xs h0) (he : (mm_cd M)[j]? = some en) (hx : pm_x xs en j lv st h = some (.inl (j', lv', st', h'))) (k : pm_G p l e R s m args below meth c Q M b x ta D h0 j' lv' st' h') (hi : pi_i en = .if_icmp .gt off) : pm_G p l e R s m args below meth c Q M b x ta D h0 j lv st h := by
  obtain ⟨hx1, hb, hml, hown, hts, hK, hsz, hfr, hlo, hnm, hxr, hcM, hT⟩ := C
  have hck := pck_at hcM he (pm_x_live hx)
  have hd := pck_d1 hck (i := .if_icmp .gt off) hi rfl rfl
  have hnx := pck_nx hck (i := .if_icmp .gt off) hi rfl rfl rfl
  have hpc := pm_pc_at he
  have hc2 := hck
  simp only [pm_ck, hi, Bool.and_eq_true, decide_eq_true_eq] at hc2
  unfold pm_x at hx
  rw [hi] at hx
  simp only [pm_ic, pm_br, pm_nx] at hx
  split at hx
  · intro H locs ls hP hS hl
    rw [hpc]
    refine lv_icmp_gt hx1 hb hd hc2.2 (fun z => ?_) (fun z => ?_)
    · first | rw [if_pos z] at hx | rw [if_neg z] at hx
      cases hx
      exact k H locs ls hP hS hl
    · first | rw [if_neg z] at hx | rw [if_pos z] at hx
      cases hx
      have kk := k H locs ls hP hS hl
      rw [hnx] at kk
      exact kk
  · cases hx
theorem pm_s_if_le {off : Int} (C : pm_C p R s m args meth c T M b x ta D xs h0) (he : (mm_cd M)[j]? = some en) (hx : pm_x xs en j lv st h = some (.inl (j', lv', st', h'))) (k : pm_G p l e R s m args below meth c Q M b x ta D h0 j' lv' st' h') (hi : pi_i en = .ifCond .le off) : pm_G p l e R s m args below meth c Q M b x ta D h0 j lv st h := by
  obtain ⟨hx1, hb, hml, hown, hts, hK, hsz, hfr, hlo, hnm, hxr, hcM, hT⟩ := C
  have hck := pck_at hcM he (pm_x_live hx)
  have hd := pck_d1 hck (i := .ifCond .le off) hi rfl rfl
  have hnx := pck_nx hck (i := .ifCond .le off) hi rfl rfl rfl
  have hpc := pm_pc_at he
  have hc2 := hck
  simp only [pm_ck, hi, Bool.and_eq_true, decide_eq_true_eq] at hc2
  unfold pm_x at hx
  rw [hi] at hx
  simp only [pm_if, pm_br, pm_nx] at hx
  split at hx
  · intro H locs ls hP hS hl
    rw [hpc]
    refine lv_if_le hx1 hb hd hc2.2 (fun z => ?_) (fun z => ?_)
    · first | rw [if_pos z] at hx | rw [if_neg z] at hx
      cases hx
      exact k H locs ls hP hS hl
    · first | rw [if_neg z] at hx | rw [if_pos z] at hx
      cases hx
      have kk := k H locs ls hP hS hl
      rw [hnx] at kk
      exact kk
  · cases hx
theorem pm_s_ic_le {off : Int} (C : pm_C p R s m args meth c T M b x ta D xs h0) (he : (mm_cd M)[j]? = some en) (hx : pm_x xs en j lv st h = some (.inl (j', lv', st', h'))) (k : pm_G p l e R s m args below meth c Q M b x ta D h0 j' lv' st' h') (hi : pi_i en = .if_icmp .le off) : pm_G p l e R s m args below meth c Q M b x ta D h0 j lv st h := by
  obtain ⟨hx1, hb, hml, hown, hts, hK, hsz, hfr, hlo, hnm, hxr, hcM, hT⟩ := C
  have hck := pck_at hcM he (pm_x_live hx)
  have hd := pck_d1 hck (i := .if_icmp .le off) hi rfl rfl
  have hnx := pck_nx hck (i := .if_icmp .le off) hi rfl rfl rfl
  have hpc := pm_pc_at he
  have hc2 := hck
  simp only [pm_ck, hi, Bool.and_eq_true, decide_eq_true_eq] at hc2
  unfold pm_x at hx
  rw [hi] at hx
  simp only [pm_ic, pm_br, pm_nx] at hx
  split at hx
  · intro H locs ls hP hS hl
    rw [hpc]
    refine lv_icmp_le hx1 hb hd hc2.2 (fun z => ?_) (fun z => ?_)
    · first | rw [if_pos z] at hx | rw [if_neg z] at hx
      cases hx
      exact k H locs ls hP hS hl
    · first | rw [if_neg z] at hx | rw [if_pos z] at hx
      cases hx
      have kk := k H locs ls hP hS hl
      rw [hnx] at kk
      exact kk
  · cases hx
end PMS
end
section
theorem pm_in_of {C : String} {TT : u_T} {N : Nat} (ps : List Nat) (h : (List.range N).all (fun k => pm_has (ps.getD k 0) (u_lay C TT k)) = true) : ∀ w ∈ u_ws C TT N, w ∈ pm_ws := by
  intro w hw
  obtain ⟨k, hk, rfl⟩ := List.mem_map.mp hw
  exact pm_has_in (List.all_eq_true.mp h k hk)
def pm_tk (t : FieldType) (k : Nat) : Bool := match k, t with
  | 0, .int => true
  | 1, .long => true
  | 2, .object _ => true
  | 2, .array _ => true
  | 3, .boolean => true
  | _, _ => false
/-- what is known of a class -/
def pm_cf (ci : Nat) (C : String) (TT : u_T) (N : Nat) : Prop := (∀ w ∈ u_ws C TT N, w ∈ pm_ws) ∧ Cond.instantiable C N ∈ pm_ws ∧ Cond.initialized C ∈ pm_ws ∧ ∃ ty : Nat → FieldType, (∀ k, k < N → parseFieldDescriptor (TT k).2.2.1 = some (ty k)) ∧ (∀ a, a < N → ∀ b, b < N → a ≠ b → (TT a).2.1 ≠ (TT b).2.1) ∧ ∀ k, k < N → pm_tk (ty k) (pm_k ci k) = true
theorem pm_cf0 : pm_cf 0 RX0 TX0 4 := ⟨pm_in_of [428, 430, 432, 434] (by decide +kernel), pm_has_in (q := 417) (by decide +kernel), pm_has_in (q := 108) (by decide +kernel), tyX0, tyX0_ok, nmX0, fun k hk => List.all_eq_true.mp (show (List.range 4).all (fun k => pm_tk (tyX0 k) (pm_k 0 k)) = true by decide +kernel) k (List.mem_range.mpr hk)⟩
theorem pm_cf1 : pm_cf 1 RX1 TX1 7 := ⟨pm_in_of [225, 227, 229, 231, 233, 235, 237] (by decide +kernel), pm_has_in (q := 210) (by decide +kernel), pm_has_in (q := 102) (by decide +kernel), tyX1, tyX1_ok, nmX1, fun k hk => List.all_eq_true.mp (show (List.range 7).all (fun k => pm_tk (tyX1 k) (pm_k 1 k)) = true by decide +kernel) k (List.mem_range.mpr hk)⟩
theorem pm_cf2 : pm_cf 2 RX2 TX2 5 := ⟨pm_in_of [370, 372, 374, 376, 378] (by decide +kernel), pm_has_in (q := 356) (by decide +kernel), pm_has_in (q := 106) (by decide +kernel), tyX2, tyX2_ok, nmX2, fun k hk => List.all_eq_true.mp (show (List.range 5).all (fun k => pm_tk (tyX2 k) (pm_k 2 k)) = true by decide +kernel) k (List.mem_range.mpr hk)⟩
theorem pm_cf3 : pm_cf 3 RX3 TX3 4 := ⟨pm_in_of [265, 267, 269, 271] (by decide +kernel), pm_has_in (q := 248) (by decide +kernel), pm_has_in (q := 104) (by decide +kernel), tyX3, tyX3_ok, nmX3, fun k hk => List.all_eq_true.mp (show (List.range 4).all (fun k => pm_tk (tyX3 k) (pm_k 3 k)) = true by decide +kernel) k (List.mem_range.mpr hk)⟩
theorem pm_cf4 : pm_cf 4 RX4 TX4 16 := ⟨pm_in_of [322, 324, 326, 328, 330, 332, 334, 336, 338, 340, 342, 344, 346, 348, 350, 352] (by decide +kernel), pm_has_in (q := 242) (by decide +kernel), pm_has_in (q := 103) (by decide +kernel), tyX4, tyX4_ok, nmX4, fun k hk => List.all_eq_true.mp (show (List.range 16).all (fun k => pm_tk (tyX4 k) (pm_k 4 k)) = true by decide +kernel) k (List.mem_range.mpr hk)⟩
theorem pm_cf5 : pm_cf 5 RX5 TX5 8 := ⟨pm_in_of [399, 401, 403, 405, 407, 409, 411, 413] (by decide +kernel), pm_has_in (q := 382) (by decide +kernel), pm_has_in (q := 107) (by decide +kernel), tyX5, tyX5_ok, nmX5, fun k hk => List.all_eq_true.mp (show (List.range 8).all (fun k => pm_tk (tyX5 k) (pm_k 5 k)) = true by decide +kernel) k (List.mem_range.mpr hk)⟩
theorem pm_cf6 : pm_cf 6 RX6 TX6 9 := ⟨pm_in_of [169, 171, 173, 175, 177, 179, 181, 183, 185] (by decide +kernel), pm_has_in (q := 127) (by decide +kernel), pm_has_in (q := 100) (by decide +kernel), tyX6, tyX6_ok, nmX6, fun k hk => List.all_eq_true.mp (show (List.range 9).all (fun k => pm_tk (tyX6 k) (pm_k 6 k)) = true by decide +kernel) k (List.mem_range.mpr hk)⟩
theorem pm_cf7 : pm_cf 7 RX7 TX7 2 := ⟨pm_in_of [202, 204] (by decide +kernel), pm_has_in (q := 191) (by decide +kernel), pm_has_in (q := 101) (by decide +kernel), tyX7, tyX7_ok, nmX7, fun k hk => List.all_eq_true.mp (show (List.range 2).all (fun k => pm_tk (tyX7 k) (pm_k 7 k)) = true by decide +kernel) k (List.mem_range.mpr hk)⟩
theorem pm_cf8 : pm_cf 8 RX8 TX8 3 := ⟨pm_in_of [287, 289, 291] (by decide +kernel), pm_has_in (q := 275) (by decide +kernel), pm_has_in (q := 105) (by decide +kernel), tyX8, tyX8_ok, nmX8, fun k hk => List.all_eq_true.mp (show (List.range 3).all (fun k => pm_tk (tyX8 k) (pm_k 8 k)) = true by decide +kernel) k (List.mem_range.mpr hk)⟩
theorem pm_cf9 : pm_cf 9 RX9 TX9 14 := ⟨pm_in_of [451, 453, 455, 457, 459, 461, 463, 465, 467, 469, 471, 473, 475, 477] (by decide +kernel), pm_has_in (q := 119) (by decide +kernel), pm_has_in (q := 99) (by decide +kernel), tyX9, tyX9_ok, nmX9, fun k hk => List.all_eq_true.mp (show (List.range 14).all (fun k => pm_tk (tyX9 k) (pm_k 9 k)) = true by decide +kernel) k (List.mem_range.mpr hk)⟩
theorem pm_cf10 : pm_cf 10 RX10 TX10 54 := ⟨pm_in_of [1128, 1130, 1132, 1134, 1136, 1138, 1140, 1142, 1144, 1146, 1148, 1150, 1152, 1154, 1156, 1158, 1160, 1162, 1164, 1166, 1168, 1170, 1172, 1174, 1176, 1178, 1180, 1182, 1184, 1186, 1188, 1190, 1192, 1194, 1196, 1198, 1200, 1202, 1204, 1206, 1208, 1210, 1212, 1214, 1216, 1218, 1220, 1222, 1224, 1226, 1228, 1230, 1232, 1234] (by decide +kernel), pm_has_in (q := 1069) (by decide +kernel), pm_has_in (q := 109) (by decide +kernel), tyX10, tyX10_ok, nmX10, fun k hk => List.all_eq_true.mp (show (List.range 54).all (fun k => pm_tk (tyX10 k) (pm_k 10 k)) = true by decide +kernel) k (List.mem_range.mpr hk)⟩
theorem pm_cf_all {ci : Nat} {q : vw_C} (h : vwCl[ci]? = some q) : pm_cf ci q.1 q.2.1 q.2.2 := by
  match ci, h with
  | 0, h => cases h; exact pm_cf0
  | 1, h => cases h; exact pm_cf1
  | 2, h => cases h; exact pm_cf2
  | 3, h => cases h; exact pm_cf3
  | 4, h => cases h; exact pm_cf4
  | 5, h => cases h; exact pm_cf5
  | 6, h => cases h; exact pm_cf6
  | 7, h => cases h; exact pm_cf7
  | 8, h => cases h; exact pm_cf8
  | 9, h => cases h; exact pm_cf9
  | 10, h => cases h; exact pm_cf10
  | k + 11, h => simp [vwCl] at h
theorem pm_ac_int : Cond.arrayClass .int ∈ pm_ws := pm_has_in (q := 188) (by decide +kernel)
theorem pm_ac_boolean : Cond.arrayClass .boolean ∈ pm_ws := pm_has_in (q := 207) (by decide +kernel)
theorem pm_ac_byte : Cond.arrayClass .byte ∈ pm_ws := pm_has_in (q := 208) (by decide +kernel)
theorem pm_ac_long : Cond.arrayClass .long ∈ pm_ws := pm_has_in (q := 240) (by decide +kernel)
theorem pm_cp_n : Cond.native arraycopyName ∈ pm_ws := pm_has_in (q := 660) (by decide +kernel)
theorem pm_cp_s : Cond.static arraycopyName ∈ pm_ws := pm_has_in (q := 659) (by decide +kernel)
theorem pm_cp_i : Cond.initialized "java/lang/System" ∈ pm_ws := pm_has_in (q := 116) (by decide +kernel)
theorem pm_oi_m : Cond.instanceMethod objectInit ∈ pm_ws := pm_has_in (q := 124) (by decide +kernel)
theorem pm_oi_c : Cond.code objectInit ⟨#[0xb1]⟩ 1 none ∈ pm_ws := pm_has_in (q := 125) (by decide +kernel)
theorem pm_cats {b : Nat} {x : Nat → Value} (hx : ∀ k, (x k).category = 1) (st : List Value) : ((st.map (pm_v b x)).map fun v => v.category).sum = (st.map fun v => v.category).sum := by
  induction st with
  | nil => rfl
  | cons a st ih => simp only [List.map_cons, List.sum_cons, pm_v_cat hx, ih]
section PMH
variable {p : Program} {l : Launch} {e : Env} {R : Room} {s : State} {m : MethodId} {args : Array Value} {below : List Frame} {meth : Method} {c : Code} {Q : State → Prop} {T : List PmM} {M : PmM} {b : Nat} {x : Nat → Value} {ta : Nat → ClassId} {D : va_G} {xs : PmX} {h0 : PmH} {j j' : Nat} {lv lv' : PmL} {st st' : List Value} {h h' : PmH} {en : PmI}
theorem pm_s_getfield {idx : Nat} (C : pm_C p R s m args meth c T M b x ta D xs h0) (he : (mm_cd M)[j]? = some en) (hx : pm_x xs en j lv st h = some (.inl (j', lv', st', h'))) (k : pm_G p l e R s m args below meth c Q M b x ta D h0 j' lv' st' h') (hi : pi_i en = .getfield idx) : pm_G p l e R s m args below meth c Q M b x ta D h0 j lv st h := by
  obtain ⟨hx1, hb, hml, hown, hts, hK, hsz, hfr, hlo, hnm, hxr, hcM, hT⟩ := C
  have hck := pck_at hcM he (pm_x_live hx)
  have hd := pck_d1 hck (i := .getfield idx) hi rfl rfl
  have hnx := pck_nx hck (i := .getfield idx) hi rfl rfl rfl
  have hpc := pm_pc_at he
  have hc2 := hck
  simp only [pm_ck, hi, Bool.and_eq_true, decide_eq_true_eq] at hc2
  replace hc2 := hc2.2
  unfold pm_x at hx
  rw [hi] at hx
  simp only [pm_get, pm_nx] at hx
  split at hx
  · rename_i q r
    split at hx
    · rename_i t n hsh
      split at hx
      · rename_i hq
        cases hx
        intro H locs ls hP hS hl
        have kk := k H locs ls hP hS hl
        rw [hnx] at kk
        rw [hpc]
        have hw : (pm_w b x ta h)[q]? = some (b + q, .inr (pi_a en, pm_fs b x h q (pi_a en) n)) := by
          rw [hq.1] at hsh
          exact pm_w_to hsh (pm_e_obj ..)
        obtain ⟨r9, hr9, -⟩ := hP q _ hw
        have hcl : vwCl[pi_a en]? = some r9 := hr9
        have h99 : ¬ pi_a en = 99 := by
          intro z
          rw [z] at hcl
          simp [vwCl] at hcl
        rw [if_neg h99, hcl] at hc2
        obtain ⟨CC, TT, N⟩ := r9
        simp only [Bool.and_eq_true, decide_eq_true_eq] at hc2
        obtain ⟨⟨g1, g2⟩, g3⟩ := hc2
        rw [g2] at kk
        exact va_get (D := D) (ci := pi_a en) (C := CC) (T := TT) (N := N) hx1 hb hts (pm_cf_all hcl).1 hown hK.1 hP q hw hcl (pi_c en) g1 (hts _ (pm_has_in g3)) (fun _ h9 => h9) (pm_fs_at hq.2) hd kk
      · cases hx
    · cases hx
  · rename_i q r
    split at hx
    · rename_i hq
      obtain ⟨⟨adK, adV, e1, e2⟩, -⟩ := hK.2.2.2
      obtain ⟨z1, z2, -⟩ := e2 q hq.2
      rw [if_pos hq.1] at hc2
      split at hx
      · rename_i h9
        rw [if_pos h9] at hc2
        cases hx
        intro H locs ls hP hS hl
        have kk := k H locs ls hP hS hl
        rw [hnx] at kk
        rw [hpc]
        rw [List.map_cons] at kk ⊢
        rw [show pm_v b x (.retAddr (16 + q)) = x (16 + q) from rfl, z2] at kk
        rw [show pm_v b x (.retAddr q) = x q from rfl, z1]
        exact vk_getf hx1 hb (e1.1 q hq.2).2.2.1 hS hown (hts _ (pm_has_in hc2)) (fun _ h9 => h9) hd kk
      · rename_i h9
        rw [if_neg h9] at hc2
        cases hx
        intro H locs ls hP hS hl
        have kk := k H locs ls hP hS hl
        rw [hnx] at kk
        rw [hpc]
        rw [List.map_cons] at kk ⊢
        rw [show pm_v b x (.retAddr q) = x q from rfl, z1]
        exact vk_getf hx1 hb (e1.1 q hq.2).2.1 hS hown (hts _ (pm_has_in hc2)) (fun _ h9 => h9) hd kk
    · cases hx
  · cases hx
/-- a field is written, any kind -/
theorem pm_put1 {idx q n : Nat} {v : Value} {r : List Value} (C : pm_C p R s m args meth c T M b x ta D xs h0) (he : (mm_cd M)[j]? = some en) (hi : pi_i en = .putfield idx) (hsh : (ph_s h)[q]? = some (10 + pi_a en, n)) (hn : pi_c en < n)
    (hv : ∀ ty, pm_tk ty (pi_d en) = true → narrow ty (pm_v b x v) = pm_v b x v ∧ fits ty (pm_v b x v) = true) (hs : ph_s h' = ph_s h)
    (h1 : pi_d en = pm_k (pi_a en) (pi_c en) → pm_e b x ta h' q (10 + pi_a en, n) = .inr (pi_a en, (pm_fs b x h q (pi_a en) n).set (pi_c en) (pm_v b x v))) (h2 : ∀ p' q', p' ≠ q → pm_e b x ta h' p' q' = pm_e b x ta h p' q')
    (k : pm_G p l e R s m args below meth c Q M b x ta D h0 (j + 1) lv r h') : pm_G p l e R s m args below meth c Q M b x ta D h0 j lv (v :: .ref q :: r) h := by
  obtain ⟨hx1, hb, hml, hown, hts, hK, hsz, hfr, hlo, hnm, hxr, hcM, hT⟩ := C
  have hck := pck_at hcM he (by rw [hi]; rfl)
  have hd := pck_d1 hck (i := .putfield idx) hi rfl rfl
  have hnx := pck_nx hck (i := .putfield idx) hi rfl rfl rfl
  have hpc := pm_pc_at he
  have hc2 := hck
  simp only [pm_ck, hi, Bool.and_eq_true, decide_eq_true_eq] at hc2
  replace hc2 := hc2.2
  intro H locs ls hP hS hl
  rw [hpc]
  have hw : (pm_w b x ta h)[q]? = some (b + q, .inr (pi_a en, pm_fs b x h q (pi_a en) n)) := pm_w_to hsh (pm_e_obj ..)
  obtain ⟨r9, hr9, -⟩ := hP q _ hw
  have hcl : vwCl[pi_a en]? = some r9 := hr9
  rw [hcl] at hc2
  obtain ⟨CC, TT, N⟩ := r9
  simp only [Bool.and_eq_true, decide_eq_true_eq, Bool.or_eq_true, Bool.not_eq_true'] at hc2
  obtain ⟨⟨⟨g1, g2⟩, g3⟩, g4⟩ := hc2
  obtain ⟨f1, f2, f3, ty, f4, f5, f6⟩ := pm_cf_all hcl
  have hset := pm_w_set (e := .inr (pi_a en, (pm_fs b x h q (pi_a en) n).set (pi_c en) (pm_v b x v))) hs hsh (h1 g2) h2
  have hv9 := hv (ty (pi_c en)) (by rw [g2]; exact f6 _ g1)
  have fin : ∀ (H1 : Heap) (locs1 : List Loc), va_P D vwCl ((pm_w b x ta h).set q (b + q, .inr (pi_a en, (pm_fs b x h q (pi_a en) n).set (pi_c en) (pm_v b x v)))) H1 → va_D (fun q => b ≤ q) ((pm_w b x ta h).set q (b + q, .inr (pi_a en, (pm_fs b x h q (pi_a en) n).set (pi_c en) (pm_v b x v)))) → va_S (fun q => b ≤ q) s.heap H1 locs1 → W p l e R s m args below meth c H1 locs1 ((ph_s h).length - (ph_s h0).length) (pm_sz h - pm_sz h0) Q (F0 m (pi_pc en + 3) ls (r.map (pm_v b x))) := by
    intro H1 locs1 hP1 hD1 hS1
    rw [hset] at hP1
    have kk := k H1 locs1 ls hP1 hS1 hl
    rw [hnx, hs] at kk
    rw [show pm_sz h' = pm_sz h by simp only [pm_sz, hs]] at kk
    exact kk
  rcases g4 with g4 | g4
  · exact va_put (D := D) (ci := pi_a en) (C := CC) (T := TT) (N := N) hx1 hb hts f1 ty f4 f5 hown hK.1 hP (pm_D b x ta h) hS q hw hcl (pi_c en) g1 (hts _ (pm_has_in g3)) (fun _ h9 => h9) g4 (f4 _ g1) hv9.1 hv9.2 (by rw [pm_fs_len]; exact hn) hd fin
  · by_cases g5 : (TT (pi_c en)).2.2.2 = true
    · exact va_putF (D := D) (ci := pi_a en) (C := CC) (T := TT) (N := N) hx1 hb hts f1 ty f4 f5 hown hK.1 hP (pm_D b x ta h) hS q hw hcl (pi_c en) g1 (hts _ (pm_has_in g3)) (fun _ h9 => h9) g5 (by rw [hnm]; exact g4.2) g4.1 (f4 _ g1) hv9.1 hv9.2 (by rw [pm_fs_len]; exact hn) hd fin
    · exact va_put (D := D) (ci := pi_a en) (C := CC) (T := TT) (N := N) hx1 hb hts f1 ty f4 f5 hown hK.1 hP (pm_D b x ta h) hS q hw hcl (pi_c en) g1 (hts _ (pm_has_in g3)) (fun _ h9 => h9) (by simpa using g5) (f4 _ g1) hv9.1 hv9.2 (by rw [pm_fs_len]; exact hn) hd fin
theorem pm_s_putfield {idx : Nat} (C : pm_C p R s m args meth c T M b x ta D xs h0) (he : (mm_cd M)[j]? = some en) (hx : pm_x xs en j lv st h = some (.inl (j', lv', st', h'))) (k : pm_G p l e R s m args below meth c Q M b x ta D h0 j' lv' st' h') (hi : pi_i en = .putfield idx) : pm_G p l e R s m args below meth c Q M b x ta D h0 j lv st h := by
  unfold pm_x at hx
  rw [hi] at hx
  simp only [pm_put, pm_nx] at hx
  split at hx
  · rename_i v q r
    split at hx
    · rename_i t n hsh
      split at hx
      · rename_i hq
        cases hx
        obtain ⟨q1, q2, q3⟩ := hq
        subst q1
        refine pm_put1 (v := .int v) (h' := (ph_s h, pm_u2 (ph_i h) q (pi_c en) v, ph_l h, ph_r h)) C he hi hsh q2 (fun ty hty => ?_) rfl (fun g2 => ?_) (fun p' q' hp => pm_e_i q' (pm_u2_ne hp)) k
        · rcases q3 with q3 | ⟨q3, q4⟩
          · rw [q3] at hty
            cases ty <;> first | exact ⟨rfl, rfl⟩ | (exact absurd (show false = true from hty) (by decide))
          · rw [q3] at hty
            rcases q4 with q4 | q4 <;> subst q4 <;> cases ty <;> first | exact ⟨rfl, rfl⟩ | (exact absurd (show false = true from hty) (by decide))
        · rw [pm_e_obj]
          congr 2
          refine (pm_fs_set q2 ?_ (fun s' hs' => ?_)).symm
          · rw [← g2]
            rcases q3 with q3 | ⟨q3, -⟩ <;> rw [q3] <;> simp [pm_fv, ph_i, pm_u2, pm_v]
          · unfold pm_fv
            split <;> simp [ph_i, ph_l, ph_r, pm_u2, hs']
      · cases hx
    · cases hx
  · rename_i v q r
    split at hx
    · rename_i t n hsh
      split at hx
      · rename_i hq
        cases hx
        obtain ⟨q1, q2, q3⟩ := hq
        subst q1
        refine pm_put1 (v := .long v) (h' := (ph_s h, ph_i h, pm_u2 (ph_l h) q (pi_c en) v, ph_r h)) C he hi hsh q2 (fun ty hty => ?_) rfl (fun g2 => ?_) (fun p' q' hp => pm_e_l q' (pm_u2_ne hp)) k
        · rw [q3] at hty
          cases ty <;> first | exact ⟨rfl, rfl⟩ | (exact absurd (show false = true from hty) (by decide))
        · rw [pm_e_obj]
          congr 2
          refine (pm_fs_set q2 ?_ (fun s' hs' => ?_)).symm
          · rw [← g2, q3]
            simp [pm_fv, ph_l, pm_u2, pm_v]
          · unfold pm_fv
            split <;> simp [ph_i, ph_l, ph_r, pm_u2, hs']
      · cases hx
    · cases hx
  · rename_i v q r
    split at hx
    · rename_i t n hsh
      split at hx
      · rename_i hq
        cases hx
        obtain ⟨q1, q2, q3⟩ := hq
        subst q1
        refine pm_put1 (v := .ref v) (h' := (ph_s h, ph_i h, ph_l h, pm_u2 (ph_r h) q (pi_c en) (some v))) C he hi hsh q2 (fun ty hty => ?_) rfl (fun g2 => ?_) (fun p' q' hp => pm_e_r q' (pm_u2_ne hp)) k
        · rw [q3] at hty
          cases ty <;> first | exact ⟨rfl, rfl⟩ | (exact absurd (show false = true from hty) (by decide))
        · rw [pm_e_obj]
          congr 2
          refine (pm_fs_set q2 ?_ (fun s' hs' => ?_)).symm
          · rw [← g2, q3]
            simp [pm_fv, ph_r, pm_u2, pm_v, pm_rv]
          · unfold pm_fv
            split <;> simp [ph_i, ph_l, ph_r, pm_u2, hs']
      · cases hx
    · cases hx
  · cases hx
end PMH
end
section
section PMA
variable {p : Program} {l : Launch} {e : Env} {R : Room} {s : State} {m : MethodId} {args : Array Value} {below : List Frame} {meth : Method} {c : Code} {Q : State → Prop} {T : List PmM} {M : PmM} {b : Nat} {x : Nat → Value} {ta : Nat → ClassId} {D : va_G} {xs : PmX} {h0 : PmH} {j j' : Nat} {lv lv' : PmL} {st st' : List Value} {h h' : PmH} {en : PmI}
theorem pm_s_iaload (C : pm_C p R s m args meth c T M b x ta D xs h0) (he : (mm_cd M)[j]? = some en) (hx : pm_x xs en j lv st h = some (.inl (j', lv', st', h'))) (k : pm_G p l e R s m args below meth c Q M b x ta D h0 j' lv' st' h') (hi : pi_i en = .iaload) : pm_G p l e R s m args below meth c Q M b x ta D h0 j lv st h := by
  obtain ⟨hx1, hb, hml, hown, hts, hK, hsz, hfr, hlo, hnm, hxr, hcM, hT⟩ := C
  have hck := pck_at hcM he (pm_x_live hx)
  have hd := pck_d1 hck (i := .iaload) hi rfl rfl
  have hnx := pck_nx hck (i := .iaload) hi rfl rfl rfl
  have hpc := pm_pc_at he
  unfold pm_x at hx
  rw [hi] at hx
  simp only [pm_iald, pm_nx] at hx
  split at hx
  · rename_i i q r
    split at hx
    · rename_i n hsh
      split at hx
      · cases hx
      · rename_i hq
        cases hx
        intro H locs ls hP hS hl
        have kk := k H locs ls hP hS hl
        rw [hnx] at kk
        rw [hpc]
        exact va_iald hx1 hb hK.1 hP q 0 (pm_w_to hsh rfl) rfl hq hd kk
    · cases hx
  · rename_i i q r
    split at hx
    · rename_i h9
      subst h9
      split at hx
      · cases hx
      · rename_i hq
        cases hx
        obtain ⟨-, -, ⟨t, z1, z2, z3, z4⟩, -⟩ := hK.2.2.2
        intro H locs ls hP hS hl
        have kk := k H locs ls hP hS hl
        rw [hnx] at kk
        rw [hpc, List.map_cons, List.map_cons, show pm_v b x (.retAddr 41) = x 41 from rfl, z1]
        exact va_sld hx1 hb z2 z4 (Nat.not_le.mpr z3) hS hq hd kk
    · cases hx
  · cases hx
theorem pm_s_baload (C : pm_C p R s m args meth c T M b x ta D xs h0) (he : (mm_cd M)[j]? = some en) (hx : pm_x xs en j lv st h = some (.inl (j', lv', st', h'))) (k : pm_G p l e R s m args below meth c Q M b x ta D h0 j' lv' st' h') (hi : pi_i en = .baload) : pm_G p l e R s m args below meth c Q M b x ta D h0 j lv st h := by
  obtain ⟨hx1, hb, hml, hown, hts, hK, hsz, hfr, hlo, hnm, hxr, hcM, hT⟩ := C
  have hck := pck_at hcM he (pm_x_live hx)
  have hd := pck_d1 hck (i := .baload) hi rfl rfl
  have hnx := pck_nx hck (i := .baload) hi rfl rfl rfl
  have hpc := pm_pc_at he
  unfold pm_x at hx
  rw [hi] at hx
  simp only [pm_bald, pm_nx] at hx
  split at hx
  · rename_i i q r
    split at hx
    · rename_i n hsh
      split at hx
      · cases hx
      · rename_i hq
        cases hx
        intro H locs ls hP hS hl
        have kk := k H locs ls hP hS hl
        rw [hnx] at kk
        rw [hpc]
        exact va_zald hx1 hb hK.1 hP q 1 (pm_w_to hsh rfl) rfl hq hd kk
    · rename_i n hsh
      split at hx
      · cases hx
      · rename_i hq
        cases hx
        intro H locs ls hP hS hl
        have kk := k H locs ls hP hS hl
        rw [hnx] at kk
        rw [hpc]
        exact va_bald hx1 hb hK.1 hP q 2 (pm_w_to hsh rfl) rfl hq hd kk
    · cases hx
  · rename_i i q r
    split at hx
    · rename_i h9
      split at hx
      · cases hx
      · rename_i hq
        cases hx
        obtain ⟨⟨adK, adV, e1, e2⟩, -⟩ := hK.2.2.2
        have hlt : q - 16 < 6 := by omega
        obtain ⟨z1, z2, -⟩ := e2 (q - 16) hlt
        rw [show 16 + (q - 16) = q by omega] at z2
        intro H locs ls hP hS hl
        have kk := k H locs ls hP hS hl
        rw [hnx] at kk
        rw [hpc, List.map_cons, List.map_cons, show pm_v b x (.retAddr q) = x q from rfl, z2]
        exact va_tb hx1 hb (e1.1 (q - 16) hlt).2.2.2 hS hq rfl hd kk
    · cases hx
  · cases hx
theorem pm_s_laload (C : pm_C p R s m args meth c T M b x ta D xs h0) (he : (mm_cd M)[j]? = some en) (hx : pm_x xs en j lv st h = some (.inl (j', lv', st', h'))) (k : pm_G p l e R s m args below meth c Q M b x ta D h0 j' lv' st' h') (hi : pi_i en = .laload) : pm_G p l e R s m args below meth c Q M b x ta D h0 j lv st h := by
  obtain ⟨hx1, hb, hml, hown, hts, hK, hsz, hfr, hlo, hnm, hxr, hcM, hT⟩ := C
  have hck := pck_at hcM he (pm_x_live hx)
  have hd := pck_d1 hck (i := .laload) hi rfl rfl
  have hnx := pck_nx hck (i := .laload) hi rfl rfl rfl
  have hpc := pm_pc_at he
  unfold pm_x at hx
  rw [hi] at hx
  simp only [pm_lald, pm_nx] at hx
  split at hx
  · rename_i i q r
    split at hx
    · rename_i n hsh
      split at hx
      · cases hx
      · rename_i hq
        cases hx
        intro H locs ls hP hS hl
        have kk := k H locs ls hP hS hl
        rw [hnx] at kk
        rw [hpc]
        exact va_lald hx1 hb hK.1 hP q 3 (pm_w_to hsh rfl) rfl hq hd kk
    · cases hx
  · rename_i i q r
    split at hx
    · rename_i h9
      subst h9
      split at hx
      · cases hx
      · rename_i hq
        cases hx
        obtain ⟨-, ⟨t, z1, z2, -⟩, -⟩ := hK.2.2.2
        intro H locs ls hP hS hl
        have kk := k H locs ls hP hS hl
        rw [hnx] at kk
        rw [hpc, List.map_cons, List.map_cons, show pm_v b x (.retAddr 40) = x 40 from rfl, z1]
        exact va_tl hx1 hb z2 hS hq rfl hd kk
    · cases hx
  · cases hx
theorem pm_s_aaload (C : pm_C p R s m args meth c T M b x ta D xs h0) (he : (mm_cd M)[j]? = some en) (hx : pm_x xs en j lv st h = some (.inl (j', lv', st', h'))) (k : pm_G p l e R s m args below meth c Q M b x ta D h0 j' lv' st' h') (hi : pi_i en = .aaload) : pm_G p l e R s m args below meth c Q M b x ta D h0 j lv st h := by
  obtain ⟨hx1, hb, hml, hown, hts, hK, hsz, hfr, hlo, hnm, hxr, hcM, hT⟩ := C
  have hck := pck_at hcM he (pm_x_live hx)
  have hd := pck_d1 hck (i := .aaload) hi rfl rfl
  have hnx := pck_nx hck (i := .aaload) hi rfl rfl rfl
  have hpc := pm_pc_at he
  unfold pm_x at hx
  rw [hi] at hx
  simp only [pm_aald, pm_nx] at hx
  split at hx
  · rename_i i q r
    split at hx
    · rename_i n hsh
      split at hx
      · cases hx
      · rename_i hq
        cases hx
        intro H locs ls hP hS hl
        have kk := k H locs ls hP hS hl
        rw [hnx] at kk
        rw [hpc]
        rw [List.map_cons, pm_v_rv] at kk
        exact va_aldq hx1 hb hK.1 hP q 4 (pm_w_to hsh rfl) rfl hq hd kk
    · cases hx
  · cases hx
theorem pm_s_iastore (C : pm_C p R s m args meth c T M b x ta D xs h0) (he : (mm_cd M)[j]? = some en) (hx : pm_x xs en j lv st h = some (.inl (j', lv', st', h'))) (k : pm_G p l e R s m args below meth c Q M b x ta D h0 j' lv' st' h') (hi : pi_i en = .iastore) : pm_G p l e R s m args below meth c Q M b x ta D h0 j lv st h := by
  obtain ⟨hx1, hb, hml, hown, hts, hK, hsz, hfr, hlo, hnm, hxr, hcM, hT⟩ := C
  have hck := pck_at hcM he (pm_x_live hx)
  have hd := pck_d1 hck (i := .iastore) hi rfl rfl
  have hnx := pck_nx hck (i := .iastore) hi rfl rfl rfl
  have hpc := pm_pc_at he
  unfold pm_x at hx
  rw [hi] at hx
  simp only [pm_iast, pm_nx] at hx
  split at hx
  · rename_i v i q r
    split at hx
    · rename_i n hsh
      split at hx
      · cases hx
      · rename_i hq
        cases hx
        intro H locs ls hP hS hl
        rw [hpc]
        refine va_iast hx1 hb hK.1 hP (pm_D b x ta h) hS q 0 (pm_w_to hsh rfl) rfl hq hd (fun H1 locs1 hP1 hD1 hS1 => ?_)
        rw [pm_w_set (h := h) (h' := (ph_s h, pm_u2 (ph_i h) q i.toNatClampNeg v, ph_l h, ph_r h)) rfl hsh ?_ (fun p' q' hp => pm_e_i q' (pm_u2_ne hp))] at hP1
        · have kk := k H1 locs1 ls hP1 hS1 hl
          rw [hnx] at kk
          exact kk
        · simp only [pm_e, ph_i, ph_l, pm_u2_eq]
          rfl
    · cases hx
  · cases hx
theorem pm_s_bastore (C : pm_C p R s m args meth c T M b x ta D xs h0) (he : (mm_cd M)[j]? = some en) (hx : pm_x xs en j lv st h = some (.inl (j', lv', st', h'))) (k : pm_G p l e R s m args below meth c Q M b x ta D h0 j' lv' st' h') (hi : pi_i en = .bastore) : pm_G p l e R s m args below meth c Q M b x ta D h0 j lv st h := by
  obtain ⟨hx1, hb, hml, hown, hts, hK, hsz, hfr, hlo, hnm, hxr, hcM, hT⟩ := C
  have hck := pck_at hcM he (pm_x_live hx)
  have hd := pck_d1 hck (i := .bastore) hi rfl rfl
  have hnx := pck_nx hck (i := .bastore) hi rfl rfl rfl
  have hpc := pm_pc_at he
  unfold pm_x at hx
  rw [hi] at hx
  simp only [pm_bast, pm_nx] at hx
  split at hx
  · rename_i v i q r
    split at hx
    · rename_i n hsh
      split at hx
      · cases hx
      · rename_i hq
        cases hx
        intro H locs ls hP hS hl
        rw [hpc]
        refine va_zast hx1 hb hK.1 hP (pm_D b x ta h) hS q 1 (pm_w_to hsh rfl) rfl hq hd (fun H1 locs1 hP1 hD1 hS1 => ?_)
        rw [pm_w_set (h := h) (h' := (ph_s h, pm_u2 (ph_i h) q i.toNatClampNeg (vp_nar .boolean v), ph_l h, ph_r h)) rfl hsh ?_ (fun p' q' hp => pm_e_i q' (pm_u2_ne hp))] at hP1
        · have kk := k H1 locs1 ls hP1 hS1 hl
          rw [hnx] at kk
          exact kk
        · simp only [pm_e, ph_i, ph_l, pm_u2_eq]
          rfl
    · rename_i n hsh
      split at hx
      · cases hx
      · rename_i hq
        cases hx
        intro H locs ls hP hS hl
        rw [hpc]
        refine va_bast hx1 hb hK.1 hP (pm_D b x ta h) hS q 2 (pm_w_to hsh rfl) rfl hq hd (fun H1 locs1 hP1 hD1 hS1 => ?_)
        rw [pm_w_set (h := h) (h' := (ph_s h, pm_u2 (ph_i h) q i.toNatClampNeg (vp_nar .byte v), ph_l h, ph_r h)) rfl hsh ?_ (fun p' q' hp => pm_e_i q' (pm_u2_ne hp))] at hP1
        · have kk := k H1 locs1 ls hP1 hS1 hl
          rw [hnx] at kk
          exact kk
        · simp only [pm_e, ph_i, ph_l, pm_u2_eq]
          rfl
    · cases hx
  · cases hx
theorem pm_s_lastore (C : pm_C p R s m args meth c T M b x ta D xs h0) (he : (mm_cd M)[j]? = some en) (hx : pm_x xs en j lv st h = some (.inl (j', lv', st', h'))) (k : pm_G p l e R s m args below meth c Q M b x ta D h0 j' lv' st' h') (hi : pi_i en = .lastore) : pm_G p l e R s m args below meth c Q M b x ta D h0 j lv st h := by
  obtain ⟨hx1, hb, hml, hown, hts, hK, hsz, hfr, hlo, hnm, hxr, hcM, hT⟩ := C
  have hck := pck_at hcM he (pm_x_live hx)
  have hd := pck_d1 hck (i := .lastore) hi rfl rfl
  have hnx := pck_nx hck (i := .lastore) hi rfl rfl rfl
  have hpc := pm_pc_at he
  unfold pm_x at hx
  rw [hi] at hx
  simp only [pm_last, pm_nx] at hx
  split at hx
  · rename_i v i q r
    split at hx
    · rename_i n hsh
      split at hx
      · cases hx
      · rename_i hq
        cases hx
        intro H locs ls hP hS hl
        rw [hpc]
        refine va_last hx1 hb hK.1 hP (pm_D b x ta h) hS q 3 (pm_w_to hsh rfl) rfl hq hd (fun H1 locs1 hP1 hD1 hS1 => ?_)
        rw [pm_w_set (h := h) (h' := (ph_s h, ph_i h, pm_u2 (ph_l h) q i.toNatClampNeg v, ph_r h)) rfl hsh ?_ (fun p' q' hp => pm_e_l q' (pm_u2_ne hp))] at hP1
        · have kk := k H1 locs1 ls hP1 hS1 hl
          rw [hnx] at kk
          exact kk
        · simp only [pm_e, ph_i, ph_l, pm_u2_eq]
          rfl
    · cases hx
  · cases hx
theorem pm_s_aastore (C : pm_C p R s m args meth c T M b x ta D xs h0) (he : (mm_cd M)[j]? = some en) (hx : pm_x xs en j lv st h = some (.inl (j', lv', st', h'))) (k : pm_G p l e R s m args below meth c Q M b x ta D h0 j' lv' st' h') (hi : pi_i en = .aastore) : pm_G p l e R s m args below meth c Q M b x ta D h0 j lv st h := by
  obtain ⟨hx1, hb, hml, hown, hts, hK, hsz, hfr, hlo, hnm, hxr, hcM, hT⟩ := C
  have hck := pck_at hcM he (pm_x_live hx)
  have hd := pck_d1 hck (i := .aastore) hi rfl rfl
  have hnx := pck_nx hck (i := .aastore) hi rfl rfl rfl
  have hpc := pm_pc_at he
  unfold pm_x at hx
  rw [hi] at hx
  simp only [pm_aast, pm_nx] at hx
  split at hx
  · rename_i v i q r
    split at hx
    · rename_i n n2 hsh hsv
      split at hx
      · cases hx
      · rename_i hq
        cases hx
        intro H locs ls hP hS hl
        rw [hpc]
        refine va_astq hx1 hb hK.1 hP (pm_D b x ta h) hS q 4 v 6 (r := (RX6, TX6, 9)) (pm_w_to hsh rfl) rfl (pm_w_to hsv (pm_e_obj b x ta h v 6 n2)) rfl hq hd (fun H1 locs1 hP1 hD1 hS1 => ?_)
        rw [pm_w_set (h := h) (h' := (ph_s h, ph_i h, ph_l h, pm_u2 (ph_r h) q i.toNatClampNeg (some v))) rfl hsh ?_ (fun p' q' hp => pm_e_r q' (pm_u2_ne hp))] at hP1
        · have kk := k H1 locs1 ls hP1 hS1 hl
          rw [hnx] at kk
          exact kk
        · simp only [pm_e, ph_r, pm_u2_eq]
          congr 7
          funext j
          by_cases hj : j = i.toNatClampNeg
          · simp [va_up, hj, pm_ro]
          · simp [va_up, hj]
    · cases hx
  · cases hx
theorem pm_s_arraylength (C : pm_C p R s m args meth c T M b x ta D xs h0) (he : (mm_cd M)[j]? = some en) (hx : pm_x xs en j lv st h = some (.inl (j', lv', st', h'))) (k : pm_G p l e R s m args below meth c Q M b x ta D h0 j' lv' st' h') (hi : pi_i en = .arraylength) : pm_G p l e R s m args below meth c Q M b x ta D h0 j lv st h := by
  obtain ⟨hx1, hb, hml, hown, hts, hK, hsz, hfr, hlo, hnm, hxr, hcM, hT⟩ := C
  have hck := pck_at hcM he (pm_x_live hx)
  have hd := pck_d1 hck (i := .arraylength) hi rfl rfl
  have hnx := pck_nx hck (i := .arraylength) hi rfl rfl rfl
  have hpc := pm_pc_at he
  unfold pm_x at hx
  rw [hi] at hx
  simp only [pm_len, pm_nx] at hx
  split at hx
  · rename_i q r
    split at hx
    · rename_i t n hsh
      split at hx
      · rename_i ht
        cases hx
        intro H locs ls hP hS hl
        have kk := k H locs ls hP hS hl
        rw [hnx] at kk
        rw [hpc]
        rcases t with _ | _ | _ | _ | _ | t
        · exact va_alen hx1 hb hK.1 hP q 0 (pm_w_to hsh rfl) rfl rfl hd kk
        · exact va_alen hx1 hb hK.1 hP q 1 (pm_w_to hsh rfl) rfl rfl hd kk
        · exact va_alen hx1 hb hK.1 hP q 2 (pm_w_to hsh rfl) rfl rfl hd kk
        · exact va_alen hx1 hb hK.1 hP q 3 (pm_w_to hsh rfl) rfl rfl hd kk
        · exact va_alen hx1 hb hK.1 hP q 4 (pm_w_to hsh rfl) rfl rfl hd kk
        · omega
      · cases hx
    · cases hx
  · rename_i q r
    split at hx
    · rename_i n hn
      cases hx
      unfold pm_xl at hn
      by_cases h41 : q = 41
      · subst h41
        rw [if_pos rfl] at hn
        cases hn
        obtain ⟨-, -, ⟨t, z1, z2, z3, z4⟩, -⟩ := hK.2.2.2
        intro H locs ls hP hS hl
        have kk := k H locs ls hP hS hl
        rw [hnx] at kk
        rw [hpc, List.map_cons, show pm_v b x (.retAddr 41) = x 41 from rfl, z1]
        exact va_slen hx1 hb z2 z4 (Nat.not_le.mpr z3) hS hd kk
      · rw [if_neg h41] at hn
        by_cases h9 : 16 ≤ q ∧ q < 22
        · rw [if_pos h9] at hn
          cases hn
          obtain ⟨⟨adK, adV, e1, e2⟩, -⟩ := hK.2.2.2
          have hlt : q - 16 < 6 := by omega
          obtain ⟨z1, z2, -⟩ := e2 (q - 16) hlt
          rw [show 16 + (q - 16) = q by omega] at z2
          intro H locs ls hP hS hl
          have kk := k H locs ls hP hS hl
          rw [hnx] at kk
          rw [hpc, List.map_cons, show pm_v b x (.retAddr q) = x q from rfl, z2]
          exact va_tlen hx1 hb (e1.1 (q - 16) hlt).2.2.2 hS rfl hd kk
        · rw [if_neg h9] at hn
          cases hn
    · cases hx
  · cases hx
theorem pm_s_ldc {i : Nat} (C : pm_C p R s m args meth c T M b x ta D xs h0) (he : (mm_cd M)[j]? = some en) (hx : pm_x xs en j lv st h = some (.inl (j', lv', st', h'))) (k : pm_G p l e R s m args below meth c Q M b x ta D h0 j' lv' st' h') (hi : pi_i en = .ldc i) : pm_G p l e R s m args below meth c Q M b x ta D h0 j lv st h := by
  obtain ⟨hx1, hb, hml, hown, hts, hK, hsz, hfr, hlo, hnm, hxr, hcM, hT⟩ := C
  have hck := pck_at hcM he (pm_x_live hx)
  have hd := pck_d1 hck (i := .ldc i) hi rfl rfl
  have hnx := pck_nx hck (i := .ldc i) hi rfl rfl rfl
  have hpc := pm_pc_at he
  have hc2 := hck
  simp only [pm_ck, hi, Bool.and_eq_true, decide_eq_true_eq] at hc2
  replace hc2 := hc2.2
  unfold pm_x at hx
  rw [hi] at hx
  simp only [pm_nx] at hx
  split at hx
  · rename_i h9
    rw [h9] at hc2
    cases hx
    intro H locs ls hP hS hl
    have kk := k H locs ls hP hS hl
    rw [hnx] at kk
    rw [hpc]
    exact lv_ldc hx1 hb hown (hts _ (pm_has_in hc2)) hd kk
  · rename_i h9
    cases hx
    have hc3 : (mm_nm M).cls = RX1 ∧ pi_a en < 6 ∧ pm_SI.getD (pi_a en) 0 = i := by
      revert hc2
      split
      · rename_i h8
        exact absurd h8 h9
      · intro hc2
        simpa using hc2
    obtain ⟨⟨adK, adV, e1, e2⟩, -⟩ := hK.2.2.2
    obtain ⟨z1, z2, z3⟩ := e2 _ hc3.2.1
    intro H locs ls hP hS hl
    have kk := k H locs ls hP hS hl
    rw [hnx] at kk
    rw [List.map_cons, show pm_v b x (.retAddr (pi_a en)) = x (pi_a en) from rfl, z1] at kk
    rw [hpc]
    rw [hc3.1] at hown
    rw [hc3.2.2] at z3
    exact va_ldcS hx1 hb hown z3 hd kk
theorem pm_s_ldc_w {i : Nat} (C : pm_C p R s m args meth c T M b x ta D xs h0) (he : (mm_cd M)[j]? = some en) (hx : pm_x xs en j lv st h = some (.inl (j', lv', st', h'))) (k : pm_G p l e R s m args below meth c Q M b x ta D h0 j' lv' st' h') (hi : pi_i en = .ldc_w i) : pm_G p l e R s m args below meth c Q M b x ta D h0 j lv st h := by
  obtain ⟨hx1, hb, hml, hown, hts, hK, hsz, hfr, hlo, hnm, hxr, hcM, hT⟩ := C
  have hck := pck_at hcM he (pm_x_live hx)
  have hd := pck_d1 hck (i := .ldc_w i) hi rfl rfl
  have hnx := pck_nx hck (i := .ldc_w i) hi rfl rfl rfl
  have hpc := pm_pc_at he
  have hc2 := hck
  simp only [pm_ck, hi, Bool.and_eq_true, decide_eq_true_eq] at hc2
  replace hc2 := hc2.2
  unfold pm_x at hx
  rw [hi] at hx
  simp only [pm_nx] at hx
  cases hx
  intro H locs ls hP hS hl
  have kk := k H locs ls hP hS hl
  rw [hnx] at kk
  rw [hpc]
  exact lv_ldcw hx1 hb hown (hts _ (pm_has_in hc2)) hd kk
theorem pm_s_ldc2_w {i : Nat} (C : pm_C p R s m args meth c T M b x ta D xs h0) (he : (mm_cd M)[j]? = some en) (hx : pm_x xs en j lv st h = some (.inl (j', lv', st', h'))) (k : pm_G p l e R s m args below meth c Q M b x ta D h0 j' lv' st' h') (hi : pi_i en = .ldc2_w i) : pm_G p l e R s m args below meth c Q M b x ta D h0 j lv st h := by
  obtain ⟨hx1, hb, hml, hown, hts, hK, hsz, hfr, hlo, hnm, hxr, hcM, hT⟩ := C
  have hck := pck_at hcM he (pm_x_live hx)
  have hd := pck_d1 hck (i := .ldc2_w i) hi rfl rfl
  have hnx := pck_nx hck (i := .ldc2_w i) hi rfl rfl rfl
  have hpc := pm_pc_at he
  have hc2 := hck
  simp only [pm_ck, hi, Bool.and_eq_true, decide_eq_true_eq] at hc2
  replace hc2 := hc2.2
  unfold pm_x at hx
  rw [hi] at hx
  simp only [pm_nx] at hx
  cases hx
  intro H locs ls hP hS hl
  have kk := k H locs ls hP hS hl
  rw [hnx] at kk
  rw [hpc]
  exact lv_ldc2 hx1 hb hown (hts _ (pm_has_in hc2)) hd kk
theorem pm_s_getstatic {i : Nat} (C : pm_C p R s m args meth c T M b x ta D xs h0) (he : (mm_cd M)[j]? = some en) (hx : pm_x xs en j lv st h = some (.inl (j', lv', st', h'))) (k : pm_G p l e R s m args below meth c Q M b x ta D h0 j' lv' st' h') (hi : pi_i en = .getstatic i) : pm_G p l e R s m args below meth c Q M b x ta D h0 j lv st h := by
  obtain ⟨hx1, hb, hml, hown, hts, hK, hsz, hfr, hlo, hnm, hxr, hcM, hT⟩ := C
  have hck := pck_at hcM he (pm_x_live hx)
  have hd := pck_d1 hck (i := .getstatic i) hi rfl rfl
  have hnx := pck_nx hck (i := .getstatic i) hi rfl rfl rfl
  have hpc := pm_pc_at he
  have hc2 := hck
  simp only [pm_ck, hi, Bool.and_eq_true, decide_eq_true_eq] at hc2
  replace hc2 := hc2.2
  unfold pm_x at hx
  rw [hi] at hx
  obtain ⟨-, ⟨t, z1, z2, z3⟩, -, z4, z5⟩ := hK.2.2.2
  simp only [pm_gs, pm_nx] at hx
  split at hx
  · rename_i h9
    rw [h9] at hc2
    simp only [Bool.and_eq_true, decide_eq_true_eq] at hc2
    cases hx
    intro H locs ls hP hS hl
    have kk := k H locs ls hP hS hl
    rw [hnx, hc2.1] at kk
    rw [hpc]
    exact va_gets hx1 hb z4 hS hown (hts _ (pm_has_in hc2.2)) (fun _ h9 => h9) hd kk
  · rename_i h9
    cases hx
    intro H locs ls hP hS hl
    have kk := k H locs ls hP hS hl
    rw [hnx] at kk
    rw [List.map_cons, show pm_v b x (.retAddr (pi_a en)) = x (pi_a en) from rfl] at kk
    rw [hpc]
    revert hc2
    split
    · rename_i h8
      exact absurd h8 h9
    · intro hc2
      simp only [Bool.and_eq_true, decide_eq_true_eq] at hc2
      rw [hc2.1, z1] at kk
      exact va_gets hx1 hb z3 hS hown (hts _ (pm_has_in hc2.2)) (fun _ h9 => h9) hd kk
    · intro hc2
      simp only [Bool.and_eq_true, decide_eq_true_eq] at hc2
      rw [hc2.1] at kk
      exact va_gets hx1 hb z5 hS hown (hts _ (pm_has_in hc2.2)) (fun _ h9 => h9) hd kk
theorem pm_s_tableswitch {d lo up : Int} {offs : Array Int} (C : pm_C p R s m args meth c T M b x ta D xs h0) (he : (mm_cd M)[j]? = some en) (hx : pm_x xs en j lv st h = some (.inl (j', lv', st', h'))) (k : pm_G p l e R s m args below meth c Q M b x ta D h0 j' lv' st' h') (hi : pi_i en = .tableswitch d lo up offs) : pm_G p l e R s m args below meth c Q M b x ta D h0 j lv st h := by
  obtain ⟨hx1, hb, hml, hown, hts, hK, hsz, hfr, hlo, hnm, hxr, hcM, hT⟩ := C
  have hck := pck_at hcM he (pm_x_live hx)
  have hd := pck_dec hck
  rw [hi] at hd
  have hpc := pm_pc_at he
  have hc2 := hck
  simp only [pm_ck, hi, Bool.and_eq_true, decide_eq_true_eq] at hc2
  obtain ⟨g1, g2⟩ := hc2.2
  unfold pm_x at hx
  rw [hi] at hx
  simp only [pm_tsw, pm_nx] at hx
  split at hx
  · rename_i v r
    split at hx
    · rename_i hq
      cases hx
      intro H locs ls hP hS hl
      rw [hpc]
      exact lv_tableOut hx1 hb hd hq g1 (k H locs ls hP hS hl)
    · rename_i hq
      split at hx
      · rename_i t ht
        cases hx
        intro H locs ls hP hS hl
        rw [hpc]
        refine lv_tableIn (off := (pm_pc (mm_cd M) j' : Int) - (pi_pc en : Int)) (tgt := pm_pc (mm_cd M) j') hx1 hb hd (fun z => hq (Or.inl z)) (fun z => hq (Or.inr z)) ?_ (by omega) (k H locs ls hP hS hl)
        rw [← Array.getElem?_toList, g2, List.getElem?_map, ht]
        rfl
      · cases hx
  · cases hx
theorem pm_lsw_off {M : PmM} {pc : Nat} {d v : Int} : ∀ (ps : List (Int × Int)) (ts : List Nat), ps.map (fun q => q.2) = ts.map (fun t => (pm_pc (mm_cd M) t : Int) - (pc : Int)) →
    (∀ q, (ps.zip ts).find? (fun q => q.1.1 == v) = some q → Op.lookupswitch.offset ps d v = (pm_pc (mm_cd M) q.2 : Int) - (pc : Int)) ∧ ((ps.zip ts).find? (fun q => q.1.1 == v) = none → Op.lookupswitch.offset ps d v = d) := by
  intro ps
  induction ps with
  | nil => intro ts _; exact ⟨fun q h => by simp at h, fun _ => rfl⟩
  | cons a ps ih =>
    intro ts ht
    cases ts with
    | nil => simp at ht
    | cons t ts =>
      simp only [List.map_cons, List.cons.injEq] at ht
      obtain ⟨a1, a2⟩ := a
      by_cases hv : a1 = v
      · subst hv
        refine ⟨fun q hq => ?_, fun hq => ?_⟩
        · simp at hq
          subst hq
          simpa [Op.lookupswitch.offset] using ht.1
        · simp at hq
      · have hf : (((a1, a2) :: ps).zip (t :: ts)).find? (fun q => q.1.1 == v) = (ps.zip ts).find? (fun q => q.1.1 == v) := by
          simp [hv]
        rw [hf]
        simp only [Op.lookupswitch.offset, if_neg hv]
        exact ih ts ht.2
theorem pm_s_lookupswitch {d : Int} {ps : Array (Int × Int)} (C : pm_C p R s m args meth c T M b x ta D xs h0) (he : (mm_cd M)[j]? = some en) (hx : pm_x xs en j lv st h = some (.inl (j', lv', st', h'))) (k : pm_G p l e R s m args below meth c Q M b x ta D h0 j' lv' st' h') (hi : pi_i en = .lookupswitch d ps) : pm_G p l e R s m args below meth c Q M b x ta D h0 j lv st h := by
  obtain ⟨hx1, hb, hml, hown, hts, hK, hsz, hfr, hlo, hnm, hxr, hcM, hT⟩ := C
  have hck := pck_at hcM he (pm_x_live hx)
  have hd := pck_dec hck
  rw [hi] at hd
  have hpc := pm_pc_at he
  have hc2 := hck
  simp only [pm_ck, hi, Bool.and_eq_true, decide_eq_true_eq] at hc2
  obtain ⟨⟨g1, g2⟩, g3⟩ := hc2.2
  unfold pm_x at hx
  rw [hi] at hx
  simp only [pm_lsw, pm_nx] at hx
  split at hx
  · rename_i v r
    split at hx
    · rename_i q hq
      cases hx
      intro H locs ls hP hS hl
      rw [hpc]
      exact lv_lookup (tgt := pm_pc (mm_cd M) q.2) hx1 hb hd g3 ((pm_lsw_off _ _ g2).1 q hq) (by omega) (k H locs ls hP hS hl)
    · rename_i hq
      cases hx
      intro H locs ls hP hS hl
      rw [hpc]
      exact lv_lookup hx1 hb hd g3 ((pm_lsw_off _ _ g2).2 hq) g1 (k H locs ls hP hS hl)
  · cases hx
theorem pm_s_objinit {i : Nat} (C : pm_C p R s m args meth c T M b x ta D xs h0) (he : (mm_cd M)[j]? = some en) (hx : pm_x xs en j lv st h = some (.inl (j', lv', st', h'))) (k : pm_G p l e R s m args below meth c Q M b x ta D h0 j' lv' st' h') (hd6 : pi_d en = 6) (hi : pi_i en = .invokespecial i) : pm_G p l e R s m args below meth c Q M b x ta D h0 j lv st h := by
  obtain ⟨hx1, hb, hml, hown, hts, hK, hsz, hfr, hlo, hnm, hxr, hcM, hT⟩ := C
  have hck := pck_at hcM he (pm_x_live hx)
  have hd := pck_d1 hck (i := .invokespecial i) hi rfl rfl
  have hnx := pck_nx hck (i := .invokespecial i) hi rfl rfl rfl
  have hpc := pm_pc_at he
  have hc2 := hck
  simp only [pm_ck, hi, Bool.and_eq_true, decide_eq_true_eq] at hc2
  replace hc2 := hc2.2
  unfold pm_x at hx
  rw [hi] at hx
  simp only [hd6, pm_obj, pm_nx] at hx
  rw [hd6] at hc2
  simp only [Bool.and_eq_true, decide_eq_true_eq] at hc2
  obtain ⟨⟨g1, g2⟩, g3⟩ := hc2
  split at hx
  · rename_i q r
    split at hx
    · cases hx
    · rename_i h8
      cases hx
      intro H locs ls hP hS hl
      have kk := k H locs ls hP hS hl
      rw [hnx] at kk
      rw [hpc]
      refine W.objInit hx1 hb hown (hts _ (pm_has_in g3)) (hts _ pm_oi_m) (hts _ pm_oi_c) rfl (by rw [hml]; exact hl.1) rfl hd (by omega) ?_ kk
      show 2 * 0 + _ + 12 ≤ _
      rw [pm_cats (pm_xc hxr)]
      omega
  · cases hx
theorem pm_s_copy {i : Nat} (C : pm_C p R s m args meth c T M b x ta D xs h0) (he : (mm_cd M)[j]? = some en) (hx : pm_x xs en j lv st h = some (.inl (j', lv', st', h'))) (k : pm_G p l e R s m args below meth c Q M b x ta D h0 j' lv' st' h') (hd7 : pi_d en = 7) (hi : pi_i en = .invokestatic i) : pm_G p l e R s m args below meth c Q M b x ta D h0 j lv st h := by
  obtain ⟨hx1, hb, hml, hown, hts, hK, hsz, hfr, hlo, hnm, hxr, hcM, hT⟩ := C
  have hck := pck_at hcM he (pm_x_live hx)
  have hd := pck_d1 hck (i := .invokestatic i) hi rfl rfl
  have hnx := pck_nx hck (i := .invokestatic i) hi rfl rfl rfl
  have hpc := pm_pc_at he
  have hc2 := hck
  simp only [pm_ck, hi, Bool.and_eq_true, decide_eq_true_eq] at hc2
  replace hc2 := hc2.2
  unfold pm_x at hx
  rw [hi] at hx
  simp only [hd7, pm_cpy, pm_nx] at hx
  rw [hd7] at hc2
  simp only [Bool.and_eq_true, decide_eq_true_eq] at hc2
  obtain ⟨⟨g1, g2⟩, g3⟩ := hc2
  split at hx
  · rename_i n dp q sp q0 r
    split at hx
    · rename_i n0 n1 hs0 hs1
      split at hx
      · cases hx
      · rename_i h8
        cases hx
        simp only [not_or] at h8
        obtain ⟨u1, u2, u3, u4, u5, u6⟩ := h8
        intro H locs ls hP hS hl
        rw [hpc]
        refine va_copyi hx1 hb (by rw [hml]; exact hl.1.symm) hown (hts _ (pm_has_in g3)) (hts _ pm_cp_n) (hts _ pm_cp_s) (hts _ pm_cp_i) hK.1 hP (pm_D b x ta h) hS q0 q 0 0 (pm_w_to hs0 rfl) (pm_w_to hs1 rfl) rfl rfl rfl u1 u2 u3 (by omega) (by omega) (fun _ _ => rfl) (by omega) ?_ hd (fun H1 locs1 hP1 hD1 hS1 => ?_)
        · rw [pm_cats (pm_xc hxr)]
          show _ + (7 + 11) ≤ _
          omega
        · rw [pm_w_set (h := h) (h' := (ph_s h, pm_uf (ph_i h) q (va_cpy (ph_i h q0) (ph_i h q) sp.toNatClampNeg dp.toNatClampNeg n.toNatClampNeg), ph_l h, ph_r h)) rfl hs1 ?_ (fun p' q' hp => pm_e_i q' (pm_uf_ne hp))] at hP1
          · have kk := k H1 locs1 ls hP1 hS1 hl
            rw [hnx] at kk
            exact kk
          · simp only [pm_e, ph_i, pm_uf_eq]
    · cases hx
  · cases hx
end PMA
end
section
def pm_le (h h' : PmH) : Prop := (ph_s h).length ≤ (ph_s h').length ∧ pm_sz h ≤ pm_sz h'
theorem pm_le.rf (h : PmH) : pm_le h h := ⟨Nat.le_refl _, Nat.le_refl _⟩
theorem pm_le.tr {h1 h2 h3 : PmH} (a : pm_le h1 h2) (b : pm_le h2 h3) : pm_le h1 h3 := ⟨Nat.le_trans a.1 b.1, Nat.le_trans a.2 b.2⟩
theorem pm_le.eq {h h' : PmH} (hs : ph_s h' = ph_s h) : pm_le h h' := by
  unfold pm_le pm_sz
  rw [hs]
  exact ⟨Nat.le_refl _, Nat.le_refl _⟩
theorem pm_le.push {h h' : PmH} {q : Nat × Nat} (hs : ph_s h' = ph_s h ++ [q]) : pm_le h h' := by
  unfold pm_le pm_sz
  rw [hs]
  simp
theorem pm_x_le {xs : PmX} {e : PmI} {j j' : Nat} {lv lv' : PmL} {st st' : List Value} {h h' : PmH} (hx : pm_x xs e j lv st h = some (.inl (j', lv', st', h'))) : pm_le h h' := by
  unfold pm_x at hx
  split at hx <;> (try simp only [pm_nx, pm_ii, pm_iz, pm_i1, pm_l1, pm_ll, pm_lz, pm_li, pm_ild, pm_lld, pm_ald, pm_ist, pm_lst, pm_ast, pm_br, pm_get, pm_put, pm_iald, pm_bald, pm_lald, pm_aald, pm_iast, pm_bast, pm_last, pm_aast, pm_len, pm_new, pm_nwa, pm_cpy, pm_call, pm_obj, pm_ret, pm_lret, pm_vret, pm_dup, pm_dup2, pm_pop, pm_inc, pm_tsw, pm_lsw, pm_if, pm_ic, pm_gs] at hx) <;>
    (repeat' (first | cases hx | split at hx)) <;> first | exact pm_le.rf _ | exact pm_le.eq rfl | exact pm_le.push rfl
section PMN
variable {p : Program} {l : Launch} {e : Env} {R : Room} {s : State} {m : MethodId} {args : Array Value} {below : List Frame} {meth : Method} {c : Code} {Q : State → Prop} {T : List PmM} {M : PmM} {b : Nat} {x : Nat → Value} {ta : Nat → ClassId} {D : va_G} {xs : PmX} {h0 : PmH} {j j' : Nat} {lv lv' : PmL} {st st' : List Value} {h h' : PmH} {en : PmI}
theorem pm_fresh {q : Nat} {e9 : va_E} {H1 : Heap} (hP : va_P D vwCl (pm_w b x ta h ++ [(q, e9)]) H1) (hD : va_D (fun q => b ≤ q) (pm_w b x ta h ++ [(q, e9)])) (hz : H1.size ≤ b + (ph_s h).length + 1) : q = b + (ph_s h).length := by
  have hl : (pm_w b x ta h).length = (ph_s h).length := by simp [pm_w]
  have ha : (pm_w b x ta h ++ [(q, e9)])[(ph_s h).length]? = some (q, e9) := by
    rw [List.getElem?_append_right (by omega), hl]
    simp
  have h1 : q < H1.size := (hP _ _ ha).lt
  have h2 : b ≤ q := hD.2 _ _ ha
  by_cases h3 : q < b + (ph_s h).length
  · have h4 : q - b < (ph_s h).length := by omega
    have h5 : (pm_w b x ta h ++ [(q, e9)])[q - b]? = some (b + (q - b), pm_e b x ta h (q - b) (ph_s h)[q - b]) := by
      rw [List.getElem?_append_left (by omega), pm_w_at, List.getElem?_eq_getElem h4]
      rfl
    have h6 := hD.1 _ _ _ _ h5 ha (show b + (q - b) = q by omega)
    omega
  · omega
/-- a new cell -/
theorem pm_alloc {t n pc' : Nat} {r : List Value} {e9 : va_E} {locs : List Loc} {ls : Array Slot} (hsz : s.heap.size = b + (ph_s h0).length) (hm : pm_le h0 h) (hs : ph_s h' = ph_s h ++ [(t, n)]) (he9 : pm_e b x ta h' (ph_s h).length (t, n) = e9)
    (ho : ∀ p' q', p' < (ph_s h).length → pm_e b x ta h' p' q' = pm_e b x ta h p' q') (k : pm_G p l e R s m args below meth c Q M b x ta D h0 (j + 1) lv (.ref (ph_s h).length :: r) h') (hl : pm_lv b x (mm_ml M) lv ls) (hnx : pm_pc (mm_cd M) (j + 1) = pc') :
    ∀ (q : Nat) (H1 : Heap), va_P D vwCl (pm_w b x ta h ++ [(q, e9)]) H1 → va_D (fun q => b ≤ q) (pm_w b x ta h ++ [(q, e9)]) → va_S (fun q => b ≤ q) s.heap H1 locs →
      W p l e R s m args below meth c H1 locs ((ph_s h).length - (ph_s h0).length + 1) (pm_sz h - pm_sz h0 + n) Q (F0 m pc' ls (.ref q :: r.map (pm_v b x))) := by
  intro q H1 hP1 hD1 hS1 TT hTT X
  have hz := X.heapSize
  rw [hTT, hsz] at hz
  obtain ⟨m1, m2⟩ := hm
  have hq : q = b + (ph_s h).length := pm_fresh hP1 hD1 (by omega)
  subst hq
  rw [pm_w_push hs he9 ho] at hP1
  have kk := k H1 locs ls hP1 hS1 hl
  have e1 : (ph_s h').length - (ph_s h0).length = (ph_s h).length - (ph_s h0).length + 1 := by rw [hs]; simp; omega
  have e2 : pm_sz h' - pm_sz h0 = pm_sz h - pm_sz h0 + n := by
    have : pm_sz h' = pm_sz h + n := by simp [pm_sz, hs]
    omega
  rw [e1, e2, hnx] at kk
  exact kk TT hTT X
theorem pm_e_new {b : Nat} {x : Nat → Value} {ta : Nat → ClassId} {h : PmH} {S9 : List (Nat × Nat)} {f1 : Nat → Int32} {f2 : Nat → Int64} {f3 : Nat → Option Nat} (p' : Nat) (q' : Nat × Nat) (hp : p' < (ph_s h).length) :
    pm_e b x ta (S9, pm_uf (ph_i h) (ph_s h).length f1, pm_uf (ph_l h) (ph_s h).length f2, pm_uf (ph_r h) (ph_s h).length f3) p' q' = pm_e b x ta h p' q' := by
  obtain ⟨t, n⟩ := q'
  have hne : p' ≠ (ph_s h).length := by omega
  have h1 : pm_uf (ph_i h) (ph_s h).length f1 p' = ph_i h p' := pm_uf_ne hne
  have h2 : pm_uf (ph_l h) (ph_s h).length f2 p' = ph_l h p' := pm_uf_ne hne
  have h3 : pm_uf (ph_r h) (ph_s h).length f3 p' = ph_r h p' := pm_uf_ne hne
  simp only [ph_i, ph_l, ph_r, ph_s] at h1 h2 h3
  rcases t with _ | _ | _ | _ | _ | t <;> simp [pm_e, pm_fs, pm_fv, ph_i, ph_l, ph_r, ph_s, h1, h2, h3]
theorem pm_s_new {idx : Nat} (C : pm_C p R s m args meth c T M b x ta D xs h0) (he : (mm_cd M)[j]? = some en) (hx : pm_x xs en j lv st h = some (.inl (j', lv', st', h'))) (k : pm_G p l e R s m args below meth c Q M b x ta D h0 j' lv' st' h') (hm : pm_le h0 h) (hcap : (ph_s h').length - (ph_s h0).length ≤ R.cells ∧ pm_sz h' - pm_sz h0 ≤ R.slots) (hi : pi_i en = .new idx) : pm_G p l e R s m args below meth c Q M b x ta D h0 j lv st h := by
  obtain ⟨hx1, hb, hml, hown, hts, hK, hsz, hfr, hlo, hnm, hxr, hcM, hT⟩ := C
  have hck := pck_at hcM he (pm_x_live hx)
  have hd := pck_d1 hck (i := .new idx) hi rfl rfl
  have hnx := pck_nx hck (i := .new idx) hi rfl rfl rfl
  have hpc := pm_pc_at he
  have hc2 := hck
  simp only [pm_ck, hi, Bool.and_eq_true, decide_eq_true_eq] at hc2
  replace hc2 := hc2.2
  unfold pm_x at hx
  rw [hi] at hx
  simp only [pm_new, pm_nx] at hx
  cases hx
  intro H locs ls hP hS hl
  rw [hpc]
  cases hcl : vwCl[pi_a en]? with
  | none => rw [hcl] at hc2; exact absurd hc2 (by simp)
  | some r9 =>
    rw [hcl] at hc2
    obtain ⟨CC, TT, N⟩ := r9
    simp only [Bool.and_eq_true, decide_eq_true_eq] at hc2
    obtain ⟨g1, g2⟩ := hc2
    obtain ⟨f1, f2, f3, ty, f4, f5, f6⟩ := pm_cf_all hcl
    obtain ⟨m1, m2⟩ := hm
    simp only [ph_s, pm_sz, List.length_append, List.length_singleton, List.map_append, List.map_cons, List.map_nil, List.sum_append, List.sum_cons, List.sum_nil] at hcap m1 m2
    rw [g1] at hcap k
    refine va_new (ci := pi_a en) (fs := (List.range N).map fun s => pm_v b x (match pm_k (pi_a en) s with | 1 => .long 0 | 2 => .null | _ => .int 0)) (C := CC) (T := TT) (N := N) hx1 hb hts f1 ty f4 hown (hts _ (pm_has_in g2)) (hts _ f2) (hts _ f3) hK.1 hP (pm_D b x ta h) hS (fun q hq => Nat.le_trans (by rw [hsz]; omega) hq) hcl (fun j hj => ?_) (by simp only [ph_s]; omega) (by simp only [ph_s, pm_sz]; omega) hd (pm_alloc hsz ⟨m1, m2⟩ rfl ?_ (fun p' q' hp => pm_e_new p' q' hp) k hl hnx)
    · have h7 := f6 j hj
      have h8 : vp_V ((List.range N).map fun s => pm_v b x (match pm_k (pi_a en) s with | 1 => .long 0 | 2 => .null | _ => .int 0)) j = pm_v b x (match pm_k (pi_a en) j with | 1 => .long 0 | 2 => .null | _ => .int 0) := by
        simp [vp_V, List.getD_eq_getElem?_getD, hj]
      rw [h8]
      generalize ty j = tj at h7
      generalize pm_k (pi_a en) j = kj at h7
      rcases kj with _ | _ | _ | _ | kj <;> cases tj <;> first | rfl | exact absurd (show false = true from h7) (by decide)
    · rw [pm_e_obj]
      congr 2
      unfold pm_fs
      congr 1
      funext s9
      unfold pm_fv
      generalize pm_k (pi_a en) s9 = k9
      rcases k9 with _ | _ | _ | k9 <;> simp [ph_i, ph_l, ph_r, pm_uf, pm_rv]
theorem pm_s_newarray {t9 : ArrayType} (C : pm_C p R s m args meth c T M b x ta D xs h0) (he : (mm_cd M)[j]? = some en) (hx : pm_x xs en j lv st h = some (.inl (j', lv', st', h'))) (k : pm_G p l e R s m args below meth c Q M b x ta D h0 j' lv' st' h') (hm : pm_le h0 h) (hcap : (ph_s h').length - (ph_s h0).length ≤ R.cells ∧ pm_sz h' - pm_sz h0 ≤ R.slots) (hi : pi_i en = .newarray t9) : pm_G p l e R s m args below meth c Q M b x ta D h0 j lv st h := by
  obtain ⟨hx1, hb, hml, hown, hts, hK, hsz, hfr, hlo, hnm, hxr, hcM, hT⟩ := C
  have hck := pck_at hcM he (pm_x_live hx)
  have hd := pck_d1 hck (i := .newarray t9) hi rfl rfl
  have hnx := pck_nx hck (i := .newarray t9) hi rfl rfl rfl
  have hpc := pm_pc_at he
  have hc2 := hck
  simp only [pm_ck, hi, Bool.and_eq_true, decide_eq_true_eq] at hc2
  replace hc2 := hc2.2
  unfold pm_x at hx
  rw [hi] at hx
  simp only [pm_nwa, pm_nx] at hx
  split at hx
  · rename_i n r
    split at hx
    · cases hx
    · rename_i h8
      simp only [not_or] at h8
      obtain ⟨u1, u2⟩ := h8
      cases hx
      intro H locs ls hP hS hl
      rw [hpc]
      obtain ⟨m1, m2⟩ := hm
      simp only [ph_s, pm_sz, List.length_append, List.length_singleton, List.map_append, List.map_cons, List.map_nil, List.sum_append, List.sum_cons, List.sum_nil] at hcap m1 m2
      have hA : ∀ q, s.heap.size ≤ q → b ≤ q := fun q hq => Nat.le_trans (by rw [hsz]; omega) hq
      generalize hdd : pi_d en = dd at hc2 k
      have tyq : ∀ (ty : FieldType) (k1 : Nat), (pm_tys ta)[k1]? = some (ta k1, ty) → (∀ cA : ClassId, va_RA s cA ty → s.vm.findClass ("[" ++ ty.toString) = some cA) → ∀ cA : ClassId, va_K D vwCl (pm_tys ta ++ [(cA, ty)]) s → cA = ta k1 := by
        intro ty k1 hk1 hra cA hK2
        have a1 := hra _ (hK.1.2 k1 _ hk1).2
        have a2 := hra _ (hK2.2 5 (cA, ty) rfl).2
        exact Option.some.inj (a2.symm.trans a1)
      rcases dd with _ | _ | _ | _ | dd
      · cases hc2
        refine va_newa (atype := .int) (a0 := (n.toNatClampNeg, .inl (fun _ => 0))) hx1 hb (hts _ pm_ac_int) rfl hK.1 hP (pm_D b x ta h) hS hA (fun _ => rfl) u1 rfl (by show _ * 4 ≤ _; omega) (by simp only [ph_s]; omega) (by simp only [ph_s, pm_sz]; omega) hd (fun q cA H1 hK2 hP1 hD1 hS1 => ?_)
        have := tyq .int 0 rfl (fun _ h9 => h9) cA hK2
        subst this
        exact pm_alloc hsz ⟨m1, m2⟩ rfl (by simp only [pm_e, ph_i, pm_uf_eq]) (fun p' q' hp => pm_e_new p' q' hp) k hl hnx q H1 hP1 hD1 hS1
      · cases hc2
        refine va_newa (atype := .boolean) (a0 := (n.toNatClampNeg, .inl (fun _ => 0))) hx1 hb (hts _ pm_ac_boolean) rfl hK.1 hP (pm_D b x ta h) hS hA (fun _ => rfl) u1 rfl (by show _ * 1 ≤ _; omega) (by simp only [ph_s]; omega) (by simp only [ph_s, pm_sz]; omega) hd (fun q cA H1 hK2 hP1 hD1 hS1 => ?_)
        have := tyq .boolean 1 rfl (fun _ h9 => h9) cA hK2
        subst this
        exact pm_alloc hsz ⟨m1, m2⟩ rfl (by simp only [pm_e, ph_i, pm_uf_eq]) (fun p' q' hp => pm_e_new p' q' hp) k hl hnx q H1 hP1 hD1 hS1
      · cases hc2
        refine va_newa (atype := .byte) (a0 := (n.toNatClampNeg, .inl (fun _ => 0))) hx1 hb (hts _ pm_ac_byte) rfl hK.1 hP (pm_D b x ta h) hS hA (fun _ => rfl) u1 rfl (by show _ * 1 ≤ _; omega) (by simp only [ph_s]; omega) (by simp only [ph_s, pm_sz]; omega) hd (fun q cA H1 hK2 hP1 hD1 hS1 => ?_)
        have := tyq .byte 2 rfl (fun _ h9 => h9) cA hK2
        subst this
        exact pm_alloc hsz ⟨m1, m2⟩ rfl (by simp only [pm_e, ph_i, pm_uf_eq]) (fun p' q' hp => pm_e_new p' q' hp) k hl hnx q H1 hP1 hD1 hS1
      · cases hc2
        refine va_newa (atype := .long) (a0 := (n.toNatClampNeg, .inr (.inl (fun _ => 0)))) hx1 hb (hts _ pm_ac_long) rfl hK.1 hP (pm_D b x ta h) hS hA (fun _ => rfl) u1 rfl (by show _ * 8 ≤ _; omega) (by simp only [ph_s]; omega) (by simp only [ph_s, pm_sz]; omega) hd (fun q cA H1 hK2 hP1 hD1 hS1 => ?_)
        have := tyq .long 3 rfl (fun _ h9 => h9) cA hK2
        subst this
        exact pm_alloc hsz ⟨m1, m2⟩ rfl (by simp only [pm_e, ph_l, pm_uf_eq]) (fun p' q' hp => pm_e_new p' q' hp) k hl hnx q H1 hP1 hD1 hS1
      · exact absurd hc2 (by simp [pm_aty])
  · cases hx
theorem pm_s_anewarray {idx : Nat} (C : pm_C p R s m args meth c T M b x ta D xs h0) (he : (mm_cd M)[j]? = some en) (hx : pm_x xs en j lv st h = some (.inl (j', lv', st', h'))) (k : pm_G p l e R s m args below meth c Q M b x ta D h0 j' lv' st' h') (hm : pm_le h0 h) (hcap : (ph_s h').length - (ph_s h0).length ≤ R.cells ∧ pm_sz h' - pm_sz h0 ≤ R.slots) (hi : pi_i en = .anewarray idx) : pm_G p l e R s m args below meth c Q M b x ta D h0 j lv st h := by
  obtain ⟨hx1, hb, hml, hown, hts, hK, hsz, hfr, hlo, hnm, hxr, hcM, hT⟩ := C
  have hck := pck_at hcM he (pm_x_live hx)
  have hd := pck_d1 hck (i := .anewarray idx) hi rfl rfl
  have hnx := pck_nx hck (i := .anewarray idx) hi rfl rfl rfl
  have hpc := pm_pc_at he
  have hc2 := hck
  simp only [pm_ck, hi, Bool.and_eq_true, decide_eq_true_eq] at hc2
  replace hc2 := hc2.2
  unfold pm_x at hx
  rw [hi] at hx
  simp only [pm_nwa, pm_nx] at hx
  split at hx
  · rename_i n r
    split at hx
    · cases hx
    · rename_i h8
      simp only [not_or] at h8
      obtain ⟨u1, u2⟩ := h8
      cases hx
      intro H locs ls hP hS hl
      rw [hpc]
      obtain ⟨m1, m2⟩ := hm
      simp only [ph_s, pm_sz, List.length_append, List.length_singleton, List.map_append, List.map_cons, List.map_nil, List.sum_append, List.sum_cons, List.sum_nil] at hcap m1 m2
      have hA : ∀ q, s.heap.size ≤ q → b ≤ q := fun q hq => Nat.le_trans (by rw [hsz]; omega) hq
      refine va_newq (C := RX6) hx1 hb hown (hts _ (pm_has_in hc2)) hK.2.2.1 hK.1 hP (pm_D b x ta h) hS hA u1 rfl (by omega) (by simp only [ph_s]; omega) (by simp only [ph_s, pm_sz]; omega) hd (fun q cA H1 hK2 hP1 hD1 hS1 => ?_)
      have : cA = ta 4 := by
        obtain ⟨_, _, -, -, -, a1⟩ := (hK.1.2 4 (ta 4, .object RX6) rfl).2
        obtain ⟨_, _, -, -, -, a2⟩ := (hK2.2 5 (cA, .object RX6) rfl).2
        exact Option.some.inj (a2.symm.trans a1)
      subst this
      refine pm_alloc hsz ⟨m1, m2⟩ rfl ?_ (fun p' q' hp => pm_e_new p' q' hp) k hl hnx q H1 hP1 hD1 hS1
      simp only [pm_e, ph_r, pm_uf_eq]
      rfl
  · cases hx
end PMN
end
section
def pm_Pc (b : Nat) (x : Nat → Value) (ta : Nat → ClassId) (D : va_G) (xs : PmX) (as : List Value) (h : PmH) : Array Value → State → Prop := va_Pc (as.map (pm_v b x)) (fun U => U.heap.size = b + (ph_s h).length ∧ va_P D vwCl (pm_w b x ta h) U.heap ∧ pm_K b x ta D xs U)
def pm_Qc (b : Nat) (x : Nat → Value) (ta : Nat → ClassId) (D : va_G) (v : Option Value) (h' : PmH) : Array Value → State → Outcome → State → Prop := fun _ st o t => o = .returned (v.map (pm_v b x)) ∧ va_P D vwCl (pm_w b x ta h') t.heap ∧ st.heap.size ≤ t.heap.size ∧ ∀ q : Nat, q < st.heap.size → ¬ b ≤ q → t.heap[q]? = st.heap[q]?
def pm_wsM (M : PmM) : List Cond := Cond.code (mm_nm M) (mm_by M) (mm_ml M) (mm_rt M) :: pm_ws
def pm_rm (M : PmM) (h h' : PmH) : Room := { frames := mm_fr M, cells := (ph_s h').length - (ph_s h).length, slots := pm_sz h' - pm_sz h, locals := mm_lo M }
def pm_Met (l : Launch) (M : PmM) (b : Nat) (x : Nat → Value) (ta : Nat → ClassId) (D : va_G) (xs : PmX) (as : List Value) (h : PmH) (v : Option Value) (h' : PmH) : Prop := Met l (mm_nm M) (pm_wsM M) (pm_rm M h h') (pm_Pc b x ta D xs as h) (pm_Qc b x ta D v h') ((ph_s h').length - (ph_s h).length) (pm_sz h' - pm_sz h) (fun q => b ≤ q)
theorem pm_Pc_blind (b : Nat) (x : Nat → Value) (ta : Nat → ClassId) (D : va_G) (xs : PmX) (as : List Value) (h : PmH) : FrameBlind (pm_Pc b x ta D xs as h) := by
  intro a U g mk q
  obtain ⟨q1, q2, q3, q4⟩ := q
  exact ⟨q1, q2, q3, pm_K.to (u := U) (U := U.calling g mk a) (H := U.heap) (locs := []) (State.WarmedH.refl U) rfl va_S.rf q4⟩
section PMC
variable {p : Program} {l : Launch} {e : Env} {R : Room} {s : State} {m : MethodId} {args : Array Value} {below : List Frame} {meth : Method} {c : Code} {Q : State → Prop} {T : List PmM} {M M' : PmM} {b : Nat} {x : Nat → Value} {ta : Nat → ClassId} {D : va_G} {xs : PmX} {h0 : PmH} {j : Nat} {lv : PmL} {st st' as : List Value} {h h' : PmH} {en : PmI} {v : Option Value} {y : Nat}
theorem pm_size {TT : State} {H : Heap} {locs : List Loc} {slots : Nat} (hsz : s.heap.size = b + (ph_s h0).length) (hm : pm_le h0 h) (hP : va_P D vwCl (pm_w b x ta h) H) (hS : va_S (fun q => b ≤ q) s.heap H locs) (hTT : TT.heap = H) (X : Stand p l e R s m args below meth c TT locs ((ph_s h).length - (ph_s h0).length) slots) : H.size = b + (ph_s h).length := by
  have h1 := X.heapSize
  rw [hTT, hsz] at h1
  have h2 := hS.1
  rw [hsz] at h2
  have h3 := hm.1
  by_cases h4 : (ph_s h0).length < (ph_s h).length
  · have h5 : (ph_s h).length - 1 < (ph_s h).length := by omega
    have h6 : (pm_w b x ta h)[(ph_s h).length - 1]? = some (b + ((ph_s h).length - 1), pm_e b x ta h ((ph_s h).length - 1) (ph_s h)[(ph_s h).length - 1]) := by
      rw [pm_w_at, List.getElem?_eq_getElem h5]
      rfl
    have h7 : b + ((ph_s h).length - 1) < H.size := (hP _ _ h6).lt
    omega
  · omega
theorem pm_back {H : Heap} {locs : List Loc} {ls : Array Slot} {st0 rest : List Value} {a : Array Value} {pc : Nat} (hm : pm_le h0 h) (hle : pm_le h h')
    (run : va_Run p l e R s m args below meth c H locs ((ph_s h).length - (ph_s h0).length) (pm_sz h - pm_sz h0) ((ph_s h').length - (ph_s h).length) (pm_sz h' - pm_sz h) (F0 m pc ls st0) rest (pm_Qc b x ta D v h' a) (fun q => b ≤ q))
    (hS : va_S (fun q => b ≤ q) s.heap H locs) (hl : pm_lv b x (mm_ml M) lv ls) (hrest : rest = st'.map (pm_v b x)) (hnx : pm_pc (mm_cd M) (j + 1) = pc + 3)
    (k : pm_G p l e R s m args below meth c Q M b x ta D h0 (j + 1) lv (v.toList ++ st') h') : W p l e R s m args below meth c H locs ((ph_s h).length - (ph_s h0).length) (pm_sz h - pm_sz h0) Q (F0 m pc ls st0) := by
  intro TT hTT X
  obtain ⟨v', st₀, t, T', L, z0, X', hL, e1, e2, ⟨ho, hP', hz, hk⟩, go⟩ := run TT hTT X
  cases ho
  rw [z0] at hz hk
  have hS' : va_S (fun q => b ≤ q) s.heap T'.heap (locs ++ L) := ⟨Nat.le_trans hS.1 (by rw [e1]; exact hz), fun q h1 h2 => by rw [e1, hk q (Nat.lt_of_lt_of_le h1 hS.1) h2]; exact hS.2.1 q h1 h2, fun q hq => by
    rcases List.mem_append.mp hq with h9 | h9
    · exact hS.2.2 q h9
    · exact hL q h9⟩
  have kk := k T'.heap (locs ++ L) ls (by rw [e1]; exact hP') hS' hl
  obtain ⟨m1, m2⟩ := hm
  obtain ⟨n1, n2⟩ := hle
  have c1 : (ph_s h').length - (ph_s h0).length = (ph_s h).length - (ph_s h0).length + ((ph_s h').length - (ph_s h).length) := by omega
  have c2 : pm_sz h' - pm_sz h0 = pm_sz h - pm_sz h0 + (pm_sz h' - pm_sz h) := by omega
  rw [c1, c2, hnx] at kk
  obtain ⟨t2, a1, b1⟩ := kk T' rfl X'
  refine ⟨t2, go t2 ?_, b1⟩
  rw [hrest]
  have e9 : (v.toList ++ st').map (pm_v b x) = (v.map (pm_v b x)).toList ++ st'.map (pm_v b x) := by cases v <;> rfl
  rw [e9] at a1
  exact a1
theorem pm_goodM (hc : pm_ckM T M = true) : GoodIn pm_ws (pm_wsM M) := by
  intro w hw
  rcases List.mem_cons.mp hw with hw | hw
  · subst hw
    simp only [pm_ckM, Bool.and_eq_true] at hc
    exact pm_ws_good _ (pm_has_in hc.1.1.1.1.1.2)
  · exact pm_ws_good _ hw
/-- what a call's check and the callee's own give -/
theorem pm_cc {kd idx : Nat} (hck : pm_ckc T M en idx kd = true) (hy : T[pi_a en]? = some M') (hcM : pm_ckM T M' = true) (hts : ∀ w ∈ pm_ws, w.before args s = true) (hfr : mm_fr M ≤ R.frames) (hlo : mm_lo M ≤ R.locals) (hnw : ∀ w ∈ pm_nl, va_Nw w s) :
    mm_kd M' = kd ∧ pi_c en = mm_na M' + (if kd = 0 then 0 else 1) ∧ (pi_t en).getD 0 0 = mm_ml M' ∧
    (CallB R s args (mm_nm M).cls idx (mm_nm M') (mm_by M') (mm_ml M') (mm_rt M') (pm_wsM M') (pm_rm M' h h') ((ph_s h').length - (ph_s h).length) (pm_sz h' - pm_sz h) (mm_na M') ∨ va_CN R s args (mm_nm M).cls idx (mm_nm M') "ButterflyCode" (mm_by M') (mm_ml M') (mm_rt M') (pm_wsM M') (pm_rm M' h h') ((ph_s h').length - (ph_s h).length) (pm_sz h' - pm_sz h) (mm_na M')) := by
  unfold pm_ckc at hck
  rw [hy] at hck
  simp only [Bool.and_eq_true, decide_eq_true_eq] at hck
  obtain ⟨⟨⟨⟨⟨q1, q2⟩, q3⟩, q4⟩, q5⟩, q6⟩ := hck
  refine ⟨q1, q2, q3, ?_⟩
  have hG := pm_goodM hcM
  simp only [pm_ckM, Bool.and_eq_true, decide_eq_true_eq] at hcM
  have w1 := hts _ (pm_has_in hcM.1.1.1.1.2)
  have w2 := hcM.1.1.1.2
  have hR : (pm_rm M' h h').frames + 1 ≤ R.frames ∧ 8 + (mm_ml M' + 11) + (pm_rm M' h h').locals ≤ R.locals := ⟨Nat.le_trans q4 hfr, Nat.le_trans q5 hlo⟩
  by_cases hv : pi_v en = 0
  · rw [if_pos hv] at q6
    exact Or.inl (callB_of (mm_na M') hts hG rfl rfl rfl w1 (hts _ (pm_has_in q6)) w2 hR)
  · rw [if_neg hv] at q6
    exact Or.inr (va_cnB (mm_na M') hts hG rfl rfl rfl (hnw _ (List.mem_of_getElem? (of_decide_eq_true q6))) w1 w2 hR)
theorem pm_s_callS {idx : Nat} (C : pm_C p R s m args meth c T M b x ta D xs h0) (he : (mm_cd M)[j]? = some en) (hx : pm_x xs en j lv st h = some (.inr (.inr (y, as, st')))) (hy : T[y]? = some M') (hmet : pm_Met l M' b x ta D xs as h v h') (hm : pm_le h0 h) (hle : pm_le h h') (hcap : (ph_s h').length - (ph_s h0).length ≤ R.cells ∧ pm_sz h' - pm_sz h0 ≤ R.slots)
    (k : pm_G p l e R s m args below meth c Q M b x ta D h0 (j + 1) lv (v.toList ++ st') h') (hi : pi_i en = .invokestatic idx) : pm_G p l e R s m args below meth c Q M b x ta D h0 j lv st h := by
  obtain ⟨hx1, hb, hml, hown, hts, hK, hsz, hfr, hlo, hnm, hxr, hcM, hT⟩ := C
  have hck := pck_at hcM he (pm_x_live hx)
  have hd := pck_d1 hck (i := .invokestatic idx) hi rfl rfl
  have hnx := pck_nx hck (i := .invokestatic idx) hi rfl rfl rfl
  have hpc := pm_pc_at he
  have hc2 := hck
  simp only [pm_ck, hi, Bool.and_eq_true] at hc2
  replace hc2 := hc2.2
  unfold pm_x at hx
  rw [hi] at hx
  simp only at hx
  have hd7 : ¬ pi_d en = 7 := by
    intro z
    rw [z] at hx
    simp only [pm_cpy, pm_nx] at hx
    repeat' (first | cases hx | split at hx)
  have hx2 : pm_call 0 en st h = some (.inr (.inr (y, as, st'))) := by
    revert hx
    split
    · rename_i z
      exact absurd z hd7
    · exact fun z => z
  have hc3 : pm_ckc T M en idx 0 = true := by
    revert hc2
    split
    · rename_i z
      exact absurd z hd7
    · exact fun z => z
  unfold pm_call at hx2
  split at hx2
  · cases hx2
  · rename_i h8
    simp only [not_or] at h8
    obtain ⟨a1, a2, a3⟩ := h8
    simp only at hx2
    cases hx2
    have hcy := hT _ _ hy
    obtain ⟨q1, q2, q3, q4⟩ := pm_cc (M' := M') (h := h) (h' := h') hc3 hy hcy hts hfr hlo hK.2.1
    have hst : (Cond.static (mm_nm M')).before args s = true := by
      simp only [pm_ckM, Bool.and_eq_true, decide_eq_true_eq, q1] at hcy
      exact hts _ (pm_has_in hcy.1.1.2)
    intro H locs ls hP hS hl
    rw [hpc]
    intro TT hTT X
    have hHz := pm_size hsz hm hP hS hTT X
    have hn : ((st.take (pi_c en)).reverse.map (pm_v b x)).length = mm_na M' := by
      simp at q2 ⊢
      omega
    have hstk : st.map (pm_v b x) = ((st.take (pi_c en)).reverse.map (pm_v b x)).reverse ++ (st.drop (pi_c en)).map (pm_v b x) := by
      rw [List.map_reverse, List.reverse_reverse, ← List.map_append, List.take_append_drop]
    have hW8 : 2 * (F0 m (pi_pc en) ls (st.map (pm_v b x))).monitorRoom + (((st.drop (pi_c en)).map (pm_v b x)).map fun v => v.category).sum ≤ 8 := by
      show 2 * 0 + _ ≤ 8
      rw [pm_cats (pm_xc hxr)]
      omega
    have hf : (ph_s h).length - (ph_s h0).length + ((ph_s h').length - (ph_s h).length) ≤ R.cells ∧ pm_sz h - pm_sz h0 + (pm_sz h' - pm_sz h) ≤ R.slots := by
      obtain ⟨m1, m2⟩ := hm
      obtain ⟨n1, n2⟩ := hle
      omega
    have hp : PreS s H (pm_Pc b x ta D xs (st.take (pi_c en)).reverse h) ((st.take (pi_c en)).reverse.map (pm_v b x)) := ⟨pm_Pc_blind _ _ _ _ _ _ _, fun U hU hW => ⟨rfl, by rw [hU]; exact hHz, by rw [hU]; exact hP, pm_K.to hW hU hS hK⟩⟩
    rcases q4 with q4 | q4
    · exact pm_back hm hle (va_runS ⟨hx1, hb, hml, hown, hts⟩ hmet ⟨q4, hst⟩ hp rfl hn hl.1 hstk hW8 hd hf) hS hl rfl hnx k TT hTT X
    · exact pm_back hm hle (va_runSN ⟨hx1, hb, hml, hown, hts⟩ hmet ⟨q4, hst, trivial⟩ hp rfl hn hl.1 hstk hW8 hd hf) hS hl rfl hnx k TT hTT X
theorem pm_s_callV {idx : Nat} (C : pm_C p R s m args meth c T M b x ta D xs h0) (he : (mm_cd M)[j]? = some en) (hx : pm_x xs en j lv st h = some (.inr (.inr (y, as, st')))) (hy : T[y]? = some M') (hmet : pm_Met l M' b x ta D xs as h v h') (hm : pm_le h0 h) (hle : pm_le h h') (hcap : (ph_s h').length - (ph_s h0).length ≤ R.cells ∧ pm_sz h' - pm_sz h0 ≤ R.slots)
    (k : pm_G p l e R s m args below meth c Q M b x ta D h0 (j + 1) lv (v.toList ++ st') h') (hi : pi_i en = .invokevirtual idx) : pm_G p l e R s m args below meth c Q M b x ta D h0 j lv st h := by
  obtain ⟨hx1, hb, hml, hown, hts, hK, hsz, hfr, hlo, hnm, hxr, hcM, hT⟩ := C
  have hck := pck_at hcM he (pm_x_live hx)
  have hd := pck_d1 hck (i := .invokevirtual idx) hi rfl rfl
  have hnx := pck_nx hck (i := .invokevirtual idx) hi rfl rfl rfl
  have hpc := pm_pc_at he
  have hc2 := hck
  simp only [pm_ck, hi, Bool.and_eq_true] at hc2
  replace hc2 := hc2.2
  unfold pm_x at hx
  rw [hi] at hx
  simp only at hx
  unfold pm_call at hx
  split at hx
  · cases hx
  · rename_i h8
    simp only [not_or] at h8
    obtain ⟨a1, a2, a3⟩ := h8
    simp only at hx
    have core : ∀ (r9 : Value) (as2 : List Value) (rv : Nat), (st.take (pi_c en)).reverse = r9 :: as2 → pm_v b x r9 = .ref rv → y = pi_a en → as = r9 :: as2 → st' = st.drop (pi_c en) → (∀ (H : Heap) (locs : List Loc), va_P D vwCl (pm_w b x ta h) H → va_S (fun q => b ≤ q) s.heap H locs → ∃ cellB : Cell, H[rv]? = some cellB ∧ cellB.vm.isStatics = false ∧ s.vm.findClass (mm_nm M').cls = some cellB.cls) → pm_G p l e R s m args below meth c Q M b x ta D h0 j lv st h := by
      intro r9 as2 rv hr hrv e1 e2 e3 hcell
      subst e1
      subst e2
      subst e3
      have hcy := hT _ _ hy
      obtain ⟨q1, q2, q3, q4⟩ := pm_cc (M' := M') (h := h) (h' := h') hc2.1 hy hcy hts hfr hlo hK.2.1
      have hst : (Cond.instanceMethod (mm_nm M')).before args s = true ∧ (Cond.selects (mm_nm M').cls (mm_nm M') (mm_nm M')).before args s = true := by
        simp only [pm_ckM, Bool.and_eq_true, decide_eq_true_eq, q1] at hcy
        exact ⟨hts _ (pm_has_in hcy.1.1.2.1), hts _ (pm_has_in hcy.1.1.2.2)⟩
      intro H locs ls hP hS hl
      rw [hpc]
      intro TT hTT X
      have hHz := pm_size hsz hm hP hS hTT X
      have hlen : ((st.take (pi_c en)).reverse).length = pi_c en := by
        simp
        omega
      have hn : (as2.map (pm_v b x)).length = mm_na M' := by
        rw [hr] at hlen
        simp at q2 hlen ⊢
        omega
      have hstk : st.map (pm_v b x) = (as2.map (pm_v b x)).reverse ++ .ref rv :: (st.drop (pi_c en)).map (pm_v b x) := by
        have e5 : st.take (pi_c en) = as2.reverse ++ [r9] := by
          have := congrArg List.reverse hr
          rw [List.reverse_reverse] at this
          rw [this, List.reverse_cons]
        have e6 : st = as2.reverse ++ r9 :: st.drop (pi_c en) := by
          have h9 := (List.take_append_drop (pi_c en) st).symm
          rw [e5] at h9
          rw [List.append_assoc] at h9
          exact h9
        have e7 := congrArg (List.map (pm_v b x)) e6
        rw [List.map_append, List.map_cons, hrv, List.map_reverse] at e7
        exact e7
      have hW8 : 2 * (F0 m (pi_pc en) ls (st.map (pm_v b x))).monitorRoom + (((st.drop (pi_c en)).map (pm_v b x)).map fun v => v.category).sum ≤ 8 := by
        show 2 * 0 + _ ≤ 8
        rw [pm_cats (pm_xc hxr)]
        omega
      have hf : (ph_s h).length - (ph_s h0).length + ((ph_s h').length - (ph_s h).length) ≤ R.cells ∧ pm_sz h - pm_sz h0 + (pm_sz h' - pm_sz h) ≤ R.slots := by
        obtain ⟨m1, m2⟩ := hm
        obtain ⟨n1, n2⟩ := hle
        omega
      have hp : PreV s H (mm_nm M').cls rv (pm_Pc b x ta D xs (r9 :: as2) h) (as2.map (pm_v b x)) := ⟨pm_Pc_blind _ _ _ _ _ _ _, hcell H locs hP hS, fun U hU hW => ⟨by rw [List.map_cons, hrv], by rw [hU]; exact hHz, by rw [hU]; exact hP, pm_K.to hW hU hS hK⟩⟩
      rcases q4 with q4 | q4
      · exact pm_back hm hle (va_runV ⟨hx1, hb, hml, hown, hts⟩ hmet ⟨q4, hst⟩ hp rfl hn hl.1 hstk hW8 hd hf) hS hl rfl hnx k TT hTT X
      · exact pm_back hm hle (va_runVN ⟨hx1, hb, hml, hown, hts⟩ hmet ⟨q4, hst⟩ hp rfl hn hl.1 hstk hW8 hd hf) hS hl rfl hnx k TT hTT X
    split at hx
    · rename_i q as2 hr
      split at hx
      · rename_i t n hsh
        split at hx
        · rename_i ht
          cases hx
          refine core (.ref q) as2 (b + q) hr rfl rfl rfl rfl (fun H locs hP hS => ?_)
          rw [ht] at hsh
          have hw : (pm_w b x ta h)[q]? = some (b + q, .inr (pi_d en, pm_fs b x h q (pi_d en) n)) := pm_w_to hsh (pm_e_obj _ _ _ _ _ _ _)
          obtain ⟨r9, hr9, -⟩ := hP q _ hw
          have hcl : vwCl[pi_d en]? = some r9 := hr9
          have h99 : ¬ pi_d en = 99 := by
            intro z
            rw [z] at hcl
            simp [vwCl] at hcl
          have g1 := hc2.2
          rw [hy] at g1
          simp only [if_neg h99, hcl, decide_eq_true_eq] at g1
          rw [g1]
          exact va_recv hK.1 hP hcl hw
        · cases hx
      · cases hx
    · rename_i q as2 hr
      split at hx
      · rename_i h9
        cases hx
        obtain ⟨⟨adK, adV, e1, e2⟩, -⟩ := hK.2.2.2
        obtain ⟨z1, -, -⟩ := e2 q h9.2
        refine core (.retAddr q) as2 (adK q) hr z1 rfl rfl rfl (fun H locs hP hS => ?_)
        have g1 := hc2.2
        rw [hy] at g1
        simp only [if_pos h9.1, decide_eq_true_eq] at g1
        rw [g1]
        exact vk_recv e1 h9.2 hS
      · cases hx
    · cases hx
theorem pm_s_callI {idx : Nat} (C : pm_C p R s m args meth c T M b x ta D xs h0) (he : (mm_cd M)[j]? = some en) (hx : pm_x xs en j lv st h = some (.inr (.inr (y, as, st')))) (hy : T[y]? = some M') (hmet : pm_Met l M' b x ta D xs as h v h') (hm : pm_le h0 h) (hle : pm_le h h') (hcap : (ph_s h').length - (ph_s h0).length ≤ R.cells ∧ pm_sz h' - pm_sz h0 ≤ R.slots)
    (k : pm_G p l e R s m args below meth c Q M b x ta D h0 (j + 1) lv (v.toList ++ st') h') (hi : pi_i en = .invokespecial idx) : pm_G p l e R s m args below meth c Q M b x ta D h0 j lv st h := by
  obtain ⟨hx1, hb, hml, hown, hts, hK, hsz, hfr, hlo, hnm, hxr, hcM, hT⟩ := C
  have hck := pck_at hcM he (pm_x_live hx)
  have hd := pck_d1 hck (i := .invokespecial idx) hi rfl rfl
  have hnx := pck_nx hck (i := .invokespecial idx) hi rfl rfl rfl
  have hpc := pm_pc_at he
  have hc2 := hck
  simp only [pm_ck, hi, Bool.and_eq_true] at hc2
  replace hc2 := hc2.2
  unfold pm_x at hx
  rw [hi] at hx
  simp only at hx
  have hd6 : ¬ pi_d en = 6 := by
    intro z
    rw [z] at hx
    simp only [pm_obj, pm_nx] at hx
    repeat' (first | cases hx | split at hx)
  have hx2 : pm_call 2 en st h = some (.inr (.inr (y, as, st'))) := by
    revert hx
    split
    · rename_i z
      exact absurd z hd6
    · exact fun z => z
  have hc3 : pm_ckc T M en idx 2 = true := by
    revert hc2
    split
    · rename_i z
      exact absurd z hd6
    · exact fun z => z
  unfold pm_call at hx2
  split at hx2
  · cases hx2
  · rename_i h8
    simp only [not_or] at h8
    obtain ⟨a1, a2, a3⟩ := h8
    simp only at hx2
    split at hx2
    · rename_i q as2 hr
      cases hx2
      have hcy := hT _ _ hy
      obtain ⟨q1, q2, q3, q4⟩ := pm_cc (M' := M') (h := h) (h' := h') hc3 hy hcy hts hfr hlo hK.2.1
      have hst : (mm_nm M').name = "<init>" ∧ (Cond.instanceMethod (mm_nm M')).before args s = true := by
        simp only [pm_ckM, Bool.and_eq_true, decide_eq_true_eq, q1] at hcy
        exact ⟨hcy.1.1.2.2.1, hts _ (pm_has_in hcy.1.1.2.1)⟩
      have hrt : mm_rt M' = none := by
        simp only [pm_ckM, Bool.and_eq_true, decide_eq_true_eq, q1] at hcy
        exact hcy.1.1.2.2.2
      rw [hrt] at q4
      intro H locs ls hP hS hl
      rw [hpc]
      intro TT hTT X
      have hHz := pm_size hsz hm hP hS hTT X
      have hlen : ((st.take (pi_c en)).reverse).length = pi_c en := by
        simp
        omega
      have hn : (as2.map (pm_v b x)).length = mm_na M' := by
        rw [hr] at hlen
        simp at q2 hlen ⊢
        omega
      have hstk : st.map (pm_v b x) = (as2.map (pm_v b x)).reverse ++ .ref (b + q) :: (st.drop (pi_c en)).map (pm_v b x) := by
        have e5 : st.take (pi_c en) = as2.reverse ++ [.ref q] := by
          have := congrArg List.reverse hr
          rw [List.reverse_reverse] at this
          rw [this, List.reverse_cons]
        have e6 : st = as2.reverse ++ .ref q :: st.drop (pi_c en) := by
          have h9 := (List.take_append_drop (pi_c en) st).symm
          rw [e5] at h9
          rw [List.append_assoc] at h9
          exact h9
        have e7 := congrArg (List.map (pm_v b x)) e6
        rw [List.map_append, List.map_cons, List.map_reverse] at e7
        exact e7
      have hW8 : 2 * (F0 m (pi_pc en) ls (st.map (pm_v b x))).monitorRoom + (((st.drop (pi_c en)).map (pm_v b x)).map fun v => v.category).sum ≤ 8 := by
        show 2 * 0 + _ ≤ 8
        rw [pm_cats (pm_xc hxr)]
        omega
      have hf : (ph_s h).length - (ph_s h0).length + ((ph_s h').length - (ph_s h).length) ≤ R.cells ∧ pm_sz h - pm_sz h0 + (pm_sz h' - pm_sz h) ≤ R.slots := by
        obtain ⟨m1, m2⟩ := hm
        obtain ⟨n1, n2⟩ := hle
        omega
      have hp : PreS s H (pm_Pc b x ta D xs (.ref q :: as2) h) (.ref (b + q) :: as2.map (pm_v b x)) := ⟨pm_Pc_blind _ _ _ _ _ _ _, fun U hU hW => ⟨rfl, by rw [hU]; exact hHz, by rw [hU]; exact hP, pm_K.to hW hU hS hK⟩⟩
      rcases q4 with q4 | q4
      · exact pm_back hm hle (va_runI ⟨hx1, hb, hml, hown, hts⟩ hmet ⟨q4, hst⟩ hp rfl hn hl.1 hstk hW8 hd hf) hS hl rfl hnx k TT hTT X
      · exact pm_back hm hle (va_runIN ⟨hx1, hb, hml, hown, hts⟩ hmet ⟨q4, hst⟩ hp rfl hn hl.1 hstk hW8 hd hf) hS hl rfl hnx k TT hTT X
    · cases hx2
end PMC
end
section
theorem pm_call_y {xs : PmX} {en : PmI} {j y kd : Nat} {as st' st : List Value} {h : PmH} (hx : pm_call kd en st h = some (.inr (.inr (y, as, st')))) : (pm_sl as).length ≤ (pi_t en).getD 0 0 ∧ y = pi_a en := by
  unfold pm_call at hx
  split at hx
  · cases hx
  · rename_i h8
    simp only [not_or] at h8
    obtain ⟨a1, a2, a3⟩ := h8
    have a4 := Nat.not_lt.mp a3
    split at hx
    · cases hx
      exact ⟨a4, rfl⟩
    · split at hx
      · rename_i hr
        rw [hr] at a4
        split at hx
        · split at hx
          · cases hx
            exact ⟨a4, rfl⟩
          · cases hx
        · cases hx
      · rename_i hr
        rw [hr] at a4
        split at hx
        · cases hx
          exact ⟨a4, rfl⟩
        · cases hx
      · cases hx
    · split at hx
      · rename_i hr
        rw [hr] at a4
        cases hx
        exact ⟨a4, rfl⟩
      · cases hx
theorem pm_ckc_ml {T : List PmM} {M M' : PmM} {en : PmI} {idx kd : Nat} (h : pm_ckc T M en idx kd = true) (hy : T[pi_a en]? = some M') : (pi_t en).getD 0 0 = mm_ml M' := by
  unfold pm_ckc at h
  rw [hy] at h
  simp only [Bool.and_eq_true, decide_eq_true_eq] at h
  exact h.1.1.1.2
section PMW
variable {p : Program} {l : Launch} {e : Env} {R : Room} {s : State} {m : MethodId} {args : Array Value} {below : List Frame} {meth : Method} {c : Code} {Q : State → Prop} {T : List PmM} {M M' : PmM} {b : Nat} {x : Nat → Value} {ta : Nat → ClassId} {D : va_G} {xs : PmX} {h0 : PmH} {j j' : Nat} {lv lv' : PmL} {st st' as : List Value} {h h' : PmH} {en : PmI} {v : Option Value} {y : Nat}
/-- which instruction calls, and what is known then -/
theorem pm_call_is (hx : pm_x xs en j lv st h = some (.inr (.inr (y, as, st')))) : (∃ i, pi_i en = .invokestatic i ∧ ¬ pi_d en = 7 ∧ pm_call 0 en st h = some (.inr (.inr (y, as, st')))) ∨ (∃ i, pi_i en = .invokevirtual i ∧ pm_call 1 en st h = some (.inr (.inr (y, as, st')))) ∨ (∃ i, pi_i en = .invokespecial i ∧ ¬ pi_d en = 6 ∧ pm_call 2 en st h = some (.inr (.inr (y, as, st')))) := by
  cases hi : pi_i en with
  | invokestatic i =>
    refine Or.inl ⟨i, rfl, ?_⟩
    unfold pm_x at hx
    rw [hi] at hx
    simp only at hx
    split at hx
    · simp only [pm_cpy, pm_nx] at hx
      repeat' (first | cases hx | split at hx)
    · rename_i z
      exact ⟨z, hx⟩
  | invokevirtual i =>
    refine Or.inr (Or.inl ⟨i, rfl, ?_⟩)
    unfold pm_x at hx
    rw [hi] at hx
    exact hx
  | invokespecial i =>
    refine Or.inr (Or.inr ⟨i, rfl, ?_⟩)
    unfold pm_x at hx
    rw [hi] at hx
    simp only at hx
    split at hx
    · simp only [pm_obj, pm_nx] at hx
      repeat' (first | cases hx | split at hx)
    · rename_i z
      exact ⟨z, hx⟩
  | _ => exact absurd hx (by intro hx; (unfold pm_x at hx; rw [hi] at hx; (try simp only [pm_nx, pm_ii, pm_iz, pm_i1, pm_l1, pm_ll, pm_lz, pm_li, pm_ild, pm_lld, pm_ald, pm_ist, pm_lst, pm_ast, pm_br, pm_get, pm_put, pm_iald, pm_bald, pm_lald, pm_aald, pm_iast, pm_bast, pm_last, pm_aast, pm_len, pm_new, pm_nwa, pm_cpy, pm_call, pm_obj, pm_ret, pm_lret, pm_vret, pm_dup, pm_dup2, pm_pop, pm_inc, pm_tsw, pm_lsw, pm_if, pm_ic, pm_gs] at hx); repeat' (first | cases hx | split at hx)))
theorem pm_call_ml (hck : pm_ck T M j en = true) (hx : pm_x xs en j lv st h = some (.inr (.inr (y, as, st')))) (hy : T[y]? = some M') : (pm_sl as).length ≤ mm_ml M' := by
  simp only [pm_ck, Bool.and_eq_true] at hck
  replace hck := hck.2
  rcases pm_call_is hx with ⟨i, hi, h7, hc⟩ | ⟨i, hi, hc⟩ | ⟨i, hi, h6, hc⟩
  · obtain ⟨g1, g2⟩ := pm_call_y (xs := xs) (j := j) hc
    subst g2
    rw [hi] at hck
    simp only at hck
    rw [← pm_ckc_ml (kd := 0) (idx := i) (M := M) ?_ hy]
    · exact g1
    · exact hck
  · obtain ⟨g1, g2⟩ := pm_call_y (xs := xs) (j := j) hc
    subst g2
    rw [hi] at hck
    simp only [Bool.and_eq_true] at hck
    rw [← pm_ckc_ml (kd := 1) (idx := i) (M := M) hck.1 hy]
    exact g1
  · obtain ⟨g1, g2⟩ := pm_call_y (xs := xs) (j := j) hc
    subst g2
    rw [hi] at hck
    simp only at hck
    rw [← pm_ckc_ml (kd := 2) (idx := i) (M := M) ?_ hy]
    · exact g1
    · exact hck
/-- a method's own end -/
theorem pm_s_ret (C : pm_C p R s m args meth c T M b x ta D xs h0) (hr : meth.sig.returnType = mm_rt M) (hlocks : meth.locks = false) (he : (mm_cd M)[j]? = some en) (hx : pm_x xs en j lv st h = some (.inr (.inl v))) :
    pm_G p l e R s m args below meth c (MQ below (pm_Qc b x ta D v h) args s ((ph_s h).length - (ph_s h0).length) (pm_sz h - pm_sz h0) (fun q => b ≤ q)) M b x ta D h0 j lv st h := by
  obtain ⟨hx1, hb, hml, hown, hts, hK, hsz, hfr, hlo, hnm, hxr, hcM, hT⟩ := C
  have hck := pck_at hcM he (pm_x_live hx)
  have hpc := pm_pc_at he
  have hc2 := hck
  simp only [pm_ck, Bool.and_eq_true] at hc2
  replace hc2 := hc2.2
  cases hi : pi_i en with
  | ireturn =>
    have hd := pck_d1 hck (i := .ireturn) hi rfl rfl
    rw [hi] at hc2
    simp only at hc2
    unfold pm_x at hx
    rw [hi] at hx
    simp only [pm_ret] at hx
    split at hx
    · rename_i w
      have fin : ∀ ty, mm_rt M = some ty → narrow ty (.int w) = .int w → v = some (.int w) → pm_G p l e R s m args below meth c (MQ below (pm_Qc b x ta D v h) args s ((ph_s h).length - (ph_s h0).length) (pm_sz h - pm_sz h0) (fun q => b ≤ q)) M b x ta D h0 j lv [.int w] h := by
        intro ty h1 h2 h3
        subst h3
        intro H locs ls hP hS hl
        rw [hpc]
        exact W.zret hx1 hb (hr.trans h1) h2 (fun t ht hW => ⟨rfl, by rw [ht]; exact hP, by rw [ht]; exact hS.1, fun q q1 q2 => by rw [ht]; exact hS.2.1 q q1 q2⟩) hS.2.2 hd
      split at hx
      · rename_i h9
        cases hx
        rw [h9] at hc2
        exact fin .int (of_decide_eq_true hc2) rfl rfl
      · rename_i h9
        split at hx
        · rename_i h8
          cases hx
          rw [h9] at hc2
          exact fin .boolean (of_decide_eq_true hc2) (by rcases h8 with h8 | h8 <;> subst h8 <;> rfl) rfl
        · cases hx
      · rename_i h9
        split at hx
        · rename_i h8
          cases hx
          rw [h9] at hc2
          refine fin .byte (of_decide_eq_true hc2) ?_ rfl
          have : narrow .byte (.int w) = .int (vp_nar .byte w) := rfl
          rw [this, h8]
        · cases hx
      · rename_i g0 g1 g2
        split at hx
        · rename_i h8
          cases hx
          have hc3 : mm_rt M = some .char := by
            revert hc2
            split
            · rename_i z; exact absurd z g0
            · rename_i z; exact absurd z g1
            · rename_i z; exact absurd z g2
            · exact fun z => of_decide_eq_true z
          refine fin .char hc3 ?_ rfl
          have : narrow .char (.int w) = .int (vp_nar .char w) := rfl
          rw [this, h8]
        · cases hx
    · cases hx
  | lreturn =>
    have hd := pck_d1 hck (i := .lreturn) hi rfl rfl
    rw [hi] at hc2
    simp only [decide_eq_true_eq] at hc2
    unfold pm_x at hx
    rw [hi] at hx
    simp only [pm_lret] at hx
    split at hx
    · cases hx
      intro H locs ls hP hS hl
      rw [hpc]
      exact W.lret hx1 hb (hr.trans hc2) (fun t ht hW => ⟨rfl, by rw [ht]; exact hP, by rw [ht]; exact hS.1, fun q q1 q2 => by rw [ht]; exact hS.2.1 q q1 q2⟩) hS.2.2 hd
    · cases hx
  | return_ =>
    have hd := pck_d1 hck (i := .return_) hi rfl rfl
    rw [hi] at hc2
    simp only [decide_eq_true_eq] at hc2
    unfold pm_x at hx
    rw [hi] at hx
    simp only [pm_vret] at hx
    split at hx
    · cases hx
      intro H locs ls hP hS hl
      rw [hpc]
      exact W.vret hx1 hb (hr.trans hc2) (fun t ht hW => ⟨rfl, by rw [ht]; exact hP, by rw [ht]; exact hS.1, fun q q1 q2 => by rw [ht]; exact hS.2.1 q q1 q2⟩) hS.2.2 hd
    · cases hx
  | _ => exact absurd hx (by intro hx; (unfold pm_x at hx; rw [hi] at hx; (try simp only [pm_nx, pm_ii, pm_iz, pm_i1, pm_l1, pm_ll, pm_lz, pm_li, pm_ild, pm_lld, pm_ald, pm_ist, pm_lst, pm_ast, pm_br, pm_get, pm_put, pm_iald, pm_bald, pm_lald, pm_aald, pm_iast, pm_bast, pm_last, pm_aast, pm_len, pm_new, pm_nwa, pm_cpy, pm_call, pm_obj, pm_ret, pm_lret, pm_vret, pm_dup, pm_dup2, pm_pop, pm_inc, pm_tsw, pm_lsw, pm_if, pm_ic, pm_gs] at hx); repeat' (first | cases hx | split at hx)))
theorem pm_step (C : pm_C p R s m args meth c T M b x ta D xs h0) (he : (mm_cd M)[j]? = some en) (hx : pm_x xs en j lv st h = some (.inl (j', lv', st', h'))) (k : pm_G p l e R s m args below meth c Q M b x ta D h0 j' lv' st' h') (hm : pm_le h0 h) (hcap : (ph_s h').length - (ph_s h0).length ≤ R.cells ∧ pm_sz h' - pm_sz h0 ≤ R.slots) : pm_G p l e R s m args below meth c Q M b x ta D h0 j lv st h := by
  cases hi : pi_i en with
  | iadd => exact pm_s_iadd C he hx k hi
  | isub => exact pm_s_isub C he hx k hi
  | imul => exact pm_s_imul C he hx k hi
  | idiv => exact pm_s_idiv C he hx k hi
  | irem => exact pm_s_irem C he hx k hi
  | ineg => exact pm_s_ineg C he hx k hi
  | ishl => exact pm_s_ishl C he hx k hi
  | ishr => exact pm_s_ishr C he hx k hi
  | iushr => exact pm_s_iushr C he hx k hi
  | iand => exact pm_s_iand C he hx k hi
  | ior => exact pm_s_ior C he hx k hi
  | ixor => exact pm_s_ixor C he hx k hi
  | ladd => exact pm_s_ladd C he hx k hi
  | lsub => exact pm_s_lsub C he hx k hi
  | lmul => exact pm_s_lmul C he hx k hi
  | ldiv => exact pm_s_ldiv C he hx k hi
  | lrem => exact pm_s_lrem C he hx k hi
  | lneg => exact pm_s_lneg C he hx k hi
  | land => exact pm_s_land C he hx k hi
  | lor => exact pm_s_lor C he hx k hi
  | lxor => exact pm_s_lxor C he hx k hi
  | lcmp => exact pm_s_lcmp C he hx k hi
  | lshl => exact pm_s_lshl C he hx k hi
  | lshr => exact pm_s_lshr C he hx k hi
  | lushr => exact pm_s_lushr C he hx k hi
  | i2l => exact pm_s_i2l C he hx k hi
  | l2i => exact pm_s_l2i C he hx k hi
  | i2b => exact pm_s_i2b C he hx k hi
  | i2c => exact pm_s_i2c C he hx k hi
  | dup => exact pm_s_dup C he hx k hi
  | dup2 => exact pm_s_dup2 C he hx k hi
  | pop => exact pm_s_pop C he hx k hi
  | iaload => exact pm_s_iaload C he hx k hi
  | baload => exact pm_s_baload C he hx k hi
  | laload => exact pm_s_laload C he hx k hi
  | aaload => exact pm_s_aaload C he hx k hi
  | iastore => exact pm_s_iastore C he hx k hi
  | bastore => exact pm_s_bastore C he hx k hi
  | lastore => exact pm_s_lastore C he hx k hi
  | aastore => exact pm_s_aastore C he hx k hi
  | arraylength => exact pm_s_arraylength C he hx k hi
  | iconst i => exact pm_s_iconst C he hx k hi
  | bipush i => exact pm_s_bipush C he hx k hi
  | sipush i => exact pm_s_sipush C he hx k hi
  | lconst i => exact pm_s_lconst C he hx k hi
  | iload i => exact pm_s_iload C he hx k hi
  | iload_n i => exact pm_s_iload_n C he hx k hi
  | lload i => exact pm_s_lload C he hx k hi
  | lload_n i => exact pm_s_lload_n C he hx k hi
  | aload i => exact pm_s_aload C he hx k hi
  | aload_n i => exact pm_s_aload_n C he hx k hi
  | istore i => exact pm_s_istore C he hx k hi
  | istore_n i => exact pm_s_istore_n C he hx k hi
  | lstore i => exact pm_s_lstore C he hx k hi
  | lstore_n i => exact pm_s_lstore_n C he hx k hi
  | astore_n i => exact pm_s_astore_n C he hx k hi
  | ldc i => exact pm_s_ldc C he hx k hi
  | ldc_w i => exact pm_s_ldc_w C he hx k hi
  | ldc2_w i => exact pm_s_ldc2_w C he hx k hi
  | getstatic i => exact pm_s_getstatic C he hx k hi
  | getfield i => exact pm_s_getfield C he hx k hi
  | putfield i => exact pm_s_putfield C he hx k hi
  | goto i => exact pm_s_goto C he hx k hi
  | iinc i n => exact pm_s_iinc C he hx k hi
  | tableswitch d lo up offs => exact pm_s_tableswitch C he hx k hi
  | lookupswitch d ps => exact pm_s_lookupswitch C he hx k hi
  | new i => exact pm_s_new C he hx k hm hcap hi
  | newarray i => exact pm_s_newarray C he hx k hm hcap hi
  | anewarray i => exact pm_s_anewarray C he hx k hm hcap hi
  | ifCond cc off => cases cc with
    | eq => exact pm_s_if_eq C he hx k hi
    | ne => exact pm_s_if_ne C he hx k hi
    | lt => exact pm_s_if_lt C he hx k hi
    | ge => exact pm_s_if_ge C he hx k hi
    | gt => exact pm_s_if_gt C he hx k hi
    | le => exact pm_s_if_le C he hx k hi
  | if_icmp cc off => cases cc with
    | eq => exact pm_s_ic_eq C he hx k hi
    | ne => exact pm_s_ic_ne C he hx k hi
    | lt => exact pm_s_ic_lt C he hx k hi
    | ge => exact pm_s_ic_ge C he hx k hi
    | gt => exact pm_s_ic_gt C he hx k hi
    | le => exact pm_s_ic_le C he hx k hi
  | invokestatic i =>
    by_cases h7 : pi_d en = 7
    · exact pm_s_copy C he hx k h7 hi
    · refine absurd hx (by
        intro hx
        unfold pm_x at hx
        rw [hi] at hx
        simp only at hx
        simp only [pm_call] at hx
        repeat' (first | cases hx | split at hx))
  | invokespecial i =>
    by_cases h6 : pi_d en = 6
    · exact pm_s_objinit C he hx k h6 hi
    · refine absurd hx (by
        intro hx
        unfold pm_x at hx
        rw [hi] at hx
        simp only at hx
        simp only [pm_call] at hx
        repeat' (first | cases hx | split at hx))
  | _ => exact absurd hx (by intro hx; (unfold pm_x at hx; rw [hi] at hx; (try simp only [pm_nx, pm_ii, pm_iz, pm_i1, pm_l1, pm_ll, pm_lz, pm_li, pm_ild, pm_lld, pm_ald, pm_ist, pm_lst, pm_ast, pm_br, pm_get, pm_put, pm_iald, pm_bald, pm_lald, pm_aald, pm_iast, pm_bast, pm_last, pm_aast, pm_len, pm_new, pm_nwa, pm_cpy, pm_call, pm_obj, pm_ret, pm_lret, pm_vret, pm_dup, pm_dup2, pm_pop, pm_inc, pm_tsw, pm_lsw, pm_if, pm_ic, pm_gs] at hx); repeat' (first | cases hx | split at hx)))
theorem pm_run_le {T : List PmM} {xs : PmX} : ∀ (f : Nat) {es : List PmI} {j : Nat} {lv : PmL} {st : List Value} {h : PmH} {r : Option Value × PmH}, pm_run T xs f es j lv st h = some r → pm_le h r.2 := by
  intro f
  induction f with
  | zero => intro es j lv st h r hr; simp [pm_run] at hr
  | succ f ih =>
    intro es j lv st h r hr
    rw [pm_run] at hr
    cases he : es[j]? with
    | none => rw [he] at hr; simp at hr
    | some e =>
      rw [he] at hr
      simp only at hr
      cases hx : pm_x xs e j lv st h with
      | none => rw [hx] at hr; simp at hr
      | some z =>
        rw [hx] at hr
        rcases z with ⟨j', lv', st', h'⟩ | v | ⟨y, as, st'⟩
        · simp only at hr
          exact (pm_x_le hx).tr (ih hr)
        · simp only [Option.some.injEq] at hr
          subst hr
          exact pm_le.rf _
        · simp only at hr
          cases hc : pm_run T xs f (pm_cd T y) 0 (pm_en (pm_ml T y) as) [] h with
          | none => rw [hc] at hr; simp at hr
          | some w =>
            rw [hc] at hr
            exact (ih hc).tr (ih hr)
end PMW
/-- THE WALK: what the pure machine does, the JVM does -/
theorem pm_walk {l : Launch} {T : List PmM} {b : Nat} {x : Nat → Value} {ta : Nat → ClassId} {D : va_G} {xs : PmX} (hT : pm_ok T) (hxr : ∀ k, x k = .null ∨ ∃ a, x k = .ref a) : ∀ (f : Nat) (p : Program) (e : Env) (R : Room) (s : State) (m : MethodId) (args : Array Value) (below : List Frame) (meth : Method) (c : Code) (Q : State → Prop) (M : PmM) (h0 : PmH) (j : Nat) (lv : PmL) (st : List Value) (h : PmH) (v : Option Value) (h' : PmH),
    pm_run T xs f (mm_cd M) j lv st h = some (v, h') → pm_C p R s m args meth c T M b x ta D xs h0 → pm_le h0 h → ((ph_s h').length - (ph_s h0).length ≤ R.cells ∧ pm_sz h' - pm_sz h0 ≤ R.slots) →
    (∀ (j : Nat) (en : PmI) (lv : PmL) (st : List Value), (mm_cd M)[j]? = some en → pm_x xs en j lv st h' = some (.inr (.inl v)) → pm_G p l e R s m args below meth c Q M b x ta D h0 j lv st h') → pm_G p l e R s m args below meth c Q M b x ta D h0 j lv st h := by
  intro f
  induction f with
  | zero => intro p e R s m args below meth c Q M h0 j lv st h v h' hr; simp [pm_run] at hr
  | succ f ih =>
    intro p e R s m args below meth c Q M h0 j lv st h v h' hr C hm hcap hret
    rw [pm_run] at hr
    cases he : (mm_cd M)[j]? with
    | none => rw [he] at hr; simp at hr
    | some en =>
      rw [he] at hr
      simp only at hr
      cases hx : pm_x xs en j lv st h with
      | none => rw [hx] at hr; simp at hr
      | some z =>
        rw [hx] at hr
        rcases z with ⟨j', lv', st', h2⟩ | v' | ⟨y, as, st'⟩
        · simp only at hr
          have l1 := pm_x_le hx
          have l2 : pm_le h2 h' := pm_run_le f hr
          refine pm_step C he hx (ih p e R s m args below meth c Q M h0 j' lv' st' h2 v h' hr C (hm.tr l1) hcap hret) hm ?_
          obtain ⟨n1, n2⟩ := l2
          omega
        · simp only [Option.some.injEq, Prod.mk.injEq] at hr
          obtain ⟨r1, r2⟩ := hr
          subst r1
          subst r2
          exact hret j en lv st he hx
        · simp only at hr
          cases hc : pm_run T xs f (pm_cd T y) 0 (pm_en (pm_ml T y) as) [] h with
          | none => rw [hc] at hr; simp at hr
          | some w =>
            obtain ⟨v2, h2⟩ := w
            rw [hc] at hr
            simp only at hr
            have l1 : pm_le h h2 := pm_run_le f hc
            have l2 : pm_le h2 h' := pm_run_le f hr
            have hk := ih p e R s m args below meth c Q M h0 (j + 1) lv (v2.toList ++ st') h2 v h' hr C (hm.tr l1) hcap hret
            have hcap2 : (ph_s h2).length - (ph_s h0).length ≤ R.cells ∧ pm_sz h2 - pm_sz h0 ≤ R.slots := by
              obtain ⟨n1, n2⟩ := l2
              omega
            cases hy : T[y]? with
            | none =>
              exfalso
              simp only [pm_cd, hy] at hc
              cases f with
              | zero => simp [pm_run] at hc
              | succ f => simp [pm_run] at hc
            | some M' =>
              simp only [pm_cd, pm_ml, hy] at hc
              have hml := pm_call_ml (pck_at C.2.2.2.2.2.2.2.2.2.2.2.1 he (pm_x_live hx)) hx hy
              have hmet : pm_Met l M' b x ta D xs as h v2 h2 := by
                have hcy := hT y M' hy
                have hcy2 := hcy
                simp only [pm_ckM, Bool.and_eq_true, decide_eq_true_eq] at hcy2
                refine va_MetF (cc := mm_by M') (maxL := mm_ml M') (ret := mm_rt M') hcy2.1.1.1.1.1.1 rfl ?_
                intro p e s m args below meth c s₁ B hml2 hv
                obtain ⟨rfl, hsz, hP, hK⟩ := hv
                have hts : ∀ w ∈ pm_wsM M', w.before _ s = true := atoms_spec (ws := pm_wsM M') B.pre
                have C2 : pm_C p (headSpec (pm_wsM M') (pm_rm M' h h2)).room s m (as.map (pm_v b x)).toArray meth c T M' b x ta D xs h := ⟨B.exec, B.bytes, hml2, findClass_of_methodNamed B.named, fun w hw => hts w (List.mem_cons_of_mem _ hw), hK, hsz, Nat.le_refl _, Nat.le_refl _, (name_of_methodNamed B.named B.method).1, hxr, pckM_I hcy, hT⟩
                have G := ih p e _ s m _ below meth c _ M' h 0 _ [] h v2 h2 hc C2 (pm_le.rf h) ⟨Nat.le_refl _, Nat.le_refl _⟩ (fun j en lv st he hx => pm_s_ret C2 B.returns B.notSynchronized he hx)
                have g := G s.heap [] _ hP va_S.rf (pm_lv_en (pm_xc hxr) hml)
                rw [Nat.sub_self, Nat.sub_self, hcy2.1.2] at g
                rw [lg_entry_eq]
                exact g
              rcases pm_call_is hx with ⟨i, hi, -, -⟩ | ⟨i, hi, -⟩ | ⟨i, hi, -, -⟩
              · exact pm_s_callS C he hx hy hmet hm l1 hcap2 hk hi
              · exact pm_s_callV C he hx hy hmet hm l1 hcap2 hk hi
              · exact pm_s_callI C he hx hy hmet hm l1 hcap2 hk hi
end
