section
-- ===== PART A: goes FIRST, ahead of the names: the tables' words, and 'selects' of the private methods out of them =====
/-- a private method of a class that the tables say can be made, by its rows of tables_1 -/
def lw_okq (q : MethodName × Nat) : Prop := (q.1.cls ≠ "java/lang/invoke/MethodHandle" ∧ q.1.cls ≠ "java/lang/invoke/VarHandle") ∧ Cond.instantiable q.1.cls q.2 ∈ tables_1 ∧ Cond.privateMethod q.1 ∈ tables_1 ∧ Cond.instanceMethod q.1 ∈ tables_1
theorem lw_p0 : lw_okq (⟨"TenTrials", "append", "(I)V"⟩, 12) := ⟨⟨by decide +kernel, by decide +kernel⟩, List.mem_of_getElem? (i := 22) (by decide +kernel), List.mem_of_getElem? (i := 426) (by decide +kernel), List.mem_of_getElem? (i := 427) (by decide +kernel)⟩
theorem lw_p1 : lw_okq (⟨"TenTrials$Tokens", "add", "([BII)V"⟩, 5) := ⟨⟨by decide +kernel, by decide +kernel⟩, List.mem_of_getElem? (i := 52) (by decide +kernel), List.mem_of_getElem? (i := 455) (by decide +kernel), List.mem_of_getElem? (i := 456) (by decide +kernel)⟩
theorem lw_p2 : lw_okq (⟨"TenTrials$Tokens", "signOf", "([BII)LTenTrials$Sign;"⟩, 5) := ⟨⟨by decide +kernel, by decide +kernel⟩, List.mem_of_getElem? (i := 52) (by decide +kernel), List.mem_of_getElem? (i := 468) (by decide +kernel), List.mem_of_getElem? (i := 469) (by decide +kernel)⟩
theorem lw_p3 : lw_okq (⟨"TenTrials$Reader", "sees", "(LTenTrials$Sign;)Z"⟩, 8) := ⟨⟨by decide +kernel, by decide +kernel⟩, List.mem_of_getElem? (i := 46) (by decide +kernel), List.mem_of_getElem? (i := 540) (by decide +kernel), List.mem_of_getElem? (i := 541) (by decide +kernel)⟩
theorem lw_p4 : lw_okq (⟨"TenTrials$Reader", "readLine", "()Z"⟩, 8) := ⟨⟨by decide +kernel, by decide +kernel⟩, List.mem_of_getElem? (i := 46) (by decide +kernel), List.mem_of_getElem? (i := 544) (by decide +kernel), List.mem_of_getElem? (i := 545) (by decide +kernel)⟩
theorem lw_p5 : lw_okq (⟨"TenTrials$Reader", "readEvent", "()Z"⟩, 8) := ⟨⟨by decide +kernel, by decide +kernel⟩, List.mem_of_getElem? (i := 46) (by decide +kernel), List.mem_of_getElem? (i := 550) (by decide +kernel), List.mem_of_getElem? (i := 551) (by decide +kernel)⟩
theorem lw_p6 : lw_okq (⟨"TenTrials$Reader", "advance", "()Z"⟩, 8) := ⟨⟨by decide +kernel, by decide +kernel⟩, List.mem_of_getElem? (i := 46) (by decide +kernel), List.mem_of_getElem? (i := 554) (by decide +kernel), List.mem_of_getElem? (i := 555) (by decide +kernel)⟩
theorem lw_p7 : lw_okq (⟨"TenTrials$Reader", "take", "(LTenTrials$Sign;)Z"⟩, 8) := ⟨⟨by decide +kernel, by decide +kernel⟩, List.mem_of_getElem? (i := 46) (by decide +kernel), List.mem_of_getElem? (i := 562) (by decide +kernel), List.mem_of_getElem? (i := 563) (by decide +kernel)⟩
theorem lw_p8 : lw_okq (⟨"TenTrials$Reader", "refuse", "(I)Z"⟩, 8) := ⟨⟨by decide +kernel, by decide +kernel⟩, List.mem_of_getElem? (i := 46) (by decide +kernel), List.mem_of_getElem? (i := 566) (by decide +kernel), List.mem_of_getElem? (i := 567) (by decide +kernel)⟩
theorem lw_p9 : lw_okq (⟨"TenTrials$Reader", "takeNumber", "(II)Z"⟩, 8) := ⟨⟨by decide +kernel, by decide +kernel⟩, List.mem_of_getElem? (i := 46) (by decide +kernel), List.mem_of_getElem? (i := 573) (by decide +kernel), List.mem_of_getElem? (i := 574) (by decide +kernel)⟩
theorem lw_p10 : lw_okq (⟨"TenTrials$Reader", "readTable", "(LTenTrials$Trial;)Z"⟩, 8) := ⟨⟨by decide +kernel, by decide +kernel⟩, List.mem_of_getElem? (i := 46) (by decide +kernel), List.mem_of_getElem? (i := 583) (by decide +kernel), List.mem_of_getElem? (i := 584) (by decide +kernel)⟩
theorem lw_p11 : lw_okq (⟨"TenTrials$Reader", "readTwo", "(LTenTrials$Trial;)Z"⟩, 8) := ⟨⟨by decide +kernel, by decide +kernel⟩, List.mem_of_getElem? (i := 46) (by decide +kernel), List.mem_of_getElem? (i := 587) (by decide +kernel), List.mem_of_getElem? (i := 588) (by decide +kernel)⟩
theorem lw_p12 : lw_okq (⟨"TenTrials$Reader", "readFormula", "(LTenTrials$Trial;)Z"⟩, 8) := ⟨⟨by decide +kernel, by decide +kernel⟩, List.mem_of_getElem? (i := 46) (by decide +kernel), List.mem_of_getElem? (i := 595) (by decide +kernel), List.mem_of_getElem? (i := 596) (by decide +kernel)⟩
theorem lw_p13 : lw_okq (⟨"TenTrials$Reader", "readTie", "()Z"⟩, 8) := ⟨⟨by decide +kernel, by decide +kernel⟩, List.mem_of_getElem? (i := 46) (by decide +kernel), List.mem_of_getElem? (i := 611) (by decide +kernel), List.mem_of_getElem? (i := 612) (by decide +kernel)⟩
theorem lw_p14 : lw_okq (⟨"TenTrials$Reader", "readBonus", "()Z"⟩, 8) := ⟨⟨by decide +kernel, by decide +kernel⟩, List.mem_of_getElem? (i := 46) (by decide +kernel), List.mem_of_getElem? (i := 623) (by decide +kernel), List.mem_of_getElem? (i := 624) (by decide +kernel)⟩
theorem lw_p15 : lw_okq (⟨"TenTrials$Reader", "readTest", "(I)Z"⟩, 8) := ⟨⟨by decide +kernel, by decide +kernel⟩, List.mem_of_getElem? (i := 46) (by decide +kernel), List.mem_of_getElem? (i := 629) (by decide +kernel), List.mem_of_getElem? (i := 630) (by decide +kernel)⟩
def lw_privs_1 : List (MethodName × Nat) := [(⟨"TenTrials", "append", "(I)V"⟩, 12), (⟨"TenTrials$Tokens", "add", "([BII)V"⟩, 5), (⟨"TenTrials$Tokens", "signOf", "([BII)LTenTrials$Sign;"⟩, 5), (⟨"TenTrials$Reader", "sees", "(LTenTrials$Sign;)Z"⟩, 8), (⟨"TenTrials$Reader", "readLine", "()Z"⟩, 8), (⟨"TenTrials$Reader", "readEvent", "()Z"⟩, 8), (⟨"TenTrials$Reader", "advance", "()Z"⟩, 8), (⟨"TenTrials$Reader", "take", "(LTenTrials$Sign;)Z"⟩, 8), (⟨"TenTrials$Reader", "refuse", "(I)Z"⟩, 8), (⟨"TenTrials$Reader", "takeNumber", "(II)Z"⟩, 8), (⟨"TenTrials$Reader", "readTable", "(LTenTrials$Trial;)Z"⟩, 8), (⟨"TenTrials$Reader", "readTwo", "(LTenTrials$Trial;)Z"⟩, 8), (⟨"TenTrials$Reader", "readFormula", "(LTenTrials$Trial;)Z"⟩, 8), (⟨"TenTrials$Reader", "readTie", "()Z"⟩, 8), (⟨"TenTrials$Reader", "readBonus", "()Z"⟩, 8), (⟨"TenTrials$Reader", "readTest", "(I)Z"⟩, 8)]
theorem lw_r1 : ∀ q ∈ lw_privs_1, lw_okq q := List.forall_mem_cons.mpr ⟨lw_p0, List.forall_mem_cons.mpr ⟨lw_p1, List.forall_mem_cons.mpr ⟨lw_p2, List.forall_mem_cons.mpr ⟨lw_p3, List.forall_mem_cons.mpr ⟨lw_p4, List.forall_mem_cons.mpr ⟨lw_p5, List.forall_mem_cons.mpr ⟨lw_p6, List.forall_mem_cons.mpr ⟨lw_p7, List.forall_mem_cons.mpr ⟨lw_p8, List.forall_mem_cons.mpr ⟨lw_p9, List.forall_mem_cons.mpr ⟨lw_p10, List.forall_mem_cons.mpr ⟨lw_p11, List.forall_mem_cons.mpr ⟨lw_p12, List.forall_mem_cons.mpr ⟨lw_p13, List.forall_mem_cons.mpr ⟨lw_p14, List.forall_mem_cons.mpr ⟨lw_p15, fun _ h => absurd h List.not_mem_nil⟩⟩⟩⟩⟩⟩⟩⟩⟩⟩⟩⟩⟩⟩⟩⟩
theorem lw_p16 : lw_okq (⟨"TenTrials$Reader", "readSide", "(I)Z"⟩, 8) := ⟨⟨by decide +kernel, by decide +kernel⟩, List.mem_of_getElem? (i := 46) (by decide +kernel), List.mem_of_getElem? (i := 633) (by decide +kernel), List.mem_of_getElem? (i := 634) (by decide +kernel)⟩
theorem lw_p17 : lw_okq (⟨"TenTrials$Reader", "readFact", "(I)Z"⟩, 8) := ⟨⟨by decide +kernel, by decide +kernel⟩, List.mem_of_getElem? (i := 46) (by decide +kernel), List.mem_of_getElem? (i := 637) (by decide +kernel), List.mem_of_getElem? (i := 638) (by decide +kernel)⟩
theorem lw_p18 : lw_okq (⟨"TenTrials$Reader", "readNegation", "(I)Z"⟩, 8) := ⟨⟨by decide +kernel, by decide +kernel⟩, List.mem_of_getElem? (i := 46) (by decide +kernel), List.mem_of_getElem? (i := 643) (by decide +kernel), List.mem_of_getElem? (i := 644) (by decide +kernel)⟩
theorem lw_p19 : lw_okq (⟨"TenTrials$Reader", "readBracket", "(I)Z"⟩, 8) := ⟨⟨by decide +kernel, by decide +kernel⟩, List.mem_of_getElem? (i := 46) (by decide +kernel), List.mem_of_getElem? (i := 654) (by decide +kernel), List.mem_of_getElem? (i := 655) (by decide +kernel)⟩
theorem lw_p20 : lw_okq (⟨"TenTrials$Reader", "readSum", "(I)Z"⟩, 8) := ⟨⟨by decide +kernel, by decide +kernel⟩, List.mem_of_getElem? (i := 46) (by decide +kernel), List.mem_of_getElem? (i := 660) (by decide +kernel), List.mem_of_getElem? (i := 661) (by decide +kernel)⟩
theorem lw_p21 : lw_okq (⟨"TenTrials$Reader", "readTerm", "(I)Z"⟩, 8) := ⟨⟨by decide +kernel, by decide +kernel⟩, List.mem_of_getElem? (i := 46) (by decide +kernel), List.mem_of_getElem? (i := 664) (by decide +kernel), List.mem_of_getElem? (i := 665) (by decide +kernel)⟩
theorem lw_p22 : lw_okq (⟨"TenTrials$Reader", "readWord", "()Z"⟩, 8) := ⟨⟨by decide +kernel, by decide +kernel⟩, List.mem_of_getElem? (i := 46) (by decide +kernel), List.mem_of_getElem? (i := 674) (by decide +kernel), List.mem_of_getElem? (i := 675) (by decide +kernel)⟩
theorem lw_p23 : lw_okq (⟨"TenTrials$Reader", "readAthlete", "()Z"⟩, 8) := ⟨⟨by decide +kernel, by decide +kernel⟩, List.mem_of_getElem? (i := 46) (by decide +kernel), List.mem_of_getElem? (i := 704) (by decide +kernel), List.mem_of_getElem? (i := 705) (by decide +kernel)⟩
theorem lw_p24 : lw_okq (⟨"TenTrials$Reader", "readMark", "()Z"⟩, 8) := ⟨⟨by decide +kernel, by decide +kernel⟩, List.mem_of_getElem? (i := 46) (by decide +kernel), List.mem_of_getElem? (i := 717) (by decide +kernel), List.mem_of_getElem? (i := 718) (by decide +kernel)⟩
theorem lw_p25 : lw_okq (⟨"TenTrials$Reader", "takeCell", "()Z"⟩, 8) := ⟨⟨by decide +kernel, by decide +kernel⟩, List.mem_of_getElem? (i := 46) (by decide +kernel), List.mem_of_getElem? (i := 721) (by decide +kernel), List.mem_of_getElem? (i := 722) (by decide +kernel)⟩
theorem lw_p26 : lw_okq (⟨"TenTrials$Reader", "readGain", "()Z"⟩, 8) := ⟨⟨by decide +kernel, by decide +kernel⟩, List.mem_of_getElem? (i := 46) (by decide +kernel), List.mem_of_getElem? (i := 728) (by decide +kernel), List.mem_of_getElem? (i := 729) (by decide +kernel)⟩
theorem lw_p27 : lw_okq (⟨"TenTrials", "hasEvent", "(I)Z"⟩, 12) := ⟨⟨by decide +kernel, by decide +kernel⟩, List.mem_of_getElem? (i := 22) (by decide +kernel), List.mem_of_getElem? (i := 756) (by decide +kernel), List.mem_of_getElem? (i := 757) (by decide +kernel)⟩
theorem lw_p28 : lw_okq (⟨"TenTrials$Trial", "alongTable", "(I)I"⟩, 9) := ⟨⟨by decide +kernel, by decide +kernel⟩, List.mem_of_getElem? (i := 134) (by decide +kernel), List.mem_of_getElem? (i := 773) (by decide +kernel), List.mem_of_getElem? (i := 774) (by decide +kernel)⟩
theorem lw_p29 : lw_okq (⟨"TenTrials$Trial", "alongFormula", "(I)I"⟩, 9) := ⟨⟨by decide +kernel, by decide +kernel⟩, List.mem_of_getElem? (i := 134) (by decide +kernel), List.mem_of_getElem? (i := 777) (by decide +kernel), List.mem_of_getElem? (i := 778) (by decide +kernel)⟩
theorem lw_p30 : lw_okq (⟨"TenTrials$Trial", "markAt", "(I)I"⟩, 9) := ⟨⟨by decide +kernel, by decide +kernel⟩, List.mem_of_getElem? (i := 134) (by decide +kernel), List.mem_of_getElem? (i := 802) (by decide +kernel), List.mem_of_getElem? (i := 803) (by decide +kernel)⟩
theorem lw_p31 : lw_okq (⟨"TenTrials", "hasCell", "(II)Z"⟩, 12) := ⟨⟨by decide +kernel, by decide +kernel⟩, List.mem_of_getElem? (i := 22) (by decide +kernel), List.mem_of_getElem? (i := 826) (by decide +kernel), List.mem_of_getElem? (i := 827) (by decide +kernel)⟩
def lw_privs_2 : List (MethodName × Nat) := [(⟨"TenTrials$Reader", "readSide", "(I)Z"⟩, 8), (⟨"TenTrials$Reader", "readFact", "(I)Z"⟩, 8), (⟨"TenTrials$Reader", "readNegation", "(I)Z"⟩, 8), (⟨"TenTrials$Reader", "readBracket", "(I)Z"⟩, 8), (⟨"TenTrials$Reader", "readSum", "(I)Z"⟩, 8), (⟨"TenTrials$Reader", "readTerm", "(I)Z"⟩, 8), (⟨"TenTrials$Reader", "readWord", "()Z"⟩, 8), (⟨"TenTrials$Reader", "readAthlete", "()Z"⟩, 8), (⟨"TenTrials$Reader", "readMark", "()Z"⟩, 8), (⟨"TenTrials$Reader", "takeCell", "()Z"⟩, 8), (⟨"TenTrials$Reader", "readGain", "()Z"⟩, 8), (⟨"TenTrials", "hasEvent", "(I)Z"⟩, 12), (⟨"TenTrials$Trial", "alongTable", "(I)I"⟩, 9), (⟨"TenTrials$Trial", "alongFormula", "(I)I"⟩, 9), (⟨"TenTrials$Trial", "markAt", "(I)I"⟩, 9), (⟨"TenTrials", "hasCell", "(II)Z"⟩, 12)]
theorem lw_r2 : ∀ q ∈ lw_privs_2, lw_okq q := List.forall_mem_cons.mpr ⟨lw_p16, List.forall_mem_cons.mpr ⟨lw_p17, List.forall_mem_cons.mpr ⟨lw_p18, List.forall_mem_cons.mpr ⟨lw_p19, List.forall_mem_cons.mpr ⟨lw_p20, List.forall_mem_cons.mpr ⟨lw_p21, List.forall_mem_cons.mpr ⟨lw_p22, List.forall_mem_cons.mpr ⟨lw_p23, List.forall_mem_cons.mpr ⟨lw_p24, List.forall_mem_cons.mpr ⟨lw_p25, List.forall_mem_cons.mpr ⟨lw_p26, List.forall_mem_cons.mpr ⟨lw_p27, List.forall_mem_cons.mpr ⟨lw_p28, List.forall_mem_cons.mpr ⟨lw_p29, List.forall_mem_cons.mpr ⟨lw_p30, List.forall_mem_cons.mpr ⟨lw_p31, fun _ h => absurd h List.not_mem_nil⟩⟩⟩⟩⟩⟩⟩⟩⟩⟩⟩⟩⟩⟩⟩⟩
theorem lw_p32 : lw_okq (⟨"TenTrials", "hasAthlete", "(I)Z"⟩, 12) := ⟨⟨by decide +kernel, by decide +kernel⟩, List.mem_of_getElem? (i := 22) (by decide +kernel), List.mem_of_getElem? (i := 830) (by decide +kernel), List.mem_of_getElem? (i := 831) (by decide +kernel)⟩
theorem lw_p33 : lw_okq (⟨"TenTrials", "standingsNow", "()LTenTrials$Standings;"⟩, 12) := ⟨⟨by decide +kernel, by decide +kernel⟩, List.mem_of_getElem? (i := 22) (by decide +kernel), List.mem_of_getElem? (i := 852) (by decide +kernel), List.mem_of_getElem? (i := 853) (by decide +kernel)⟩
theorem lw_p34 : lw_okq (⟨"TenTrials$Bonuses", "push", "(I)V"⟩, 8) := ⟨⟨by decide +kernel, by decide +kernel⟩, List.mem_of_getElem? (i := 101) (by decide +kernel), List.mem_of_getElem? (i := 884) (by decide +kernel), List.mem_of_getElem? (i := 885) (by decide +kernel)⟩
theorem lw_p35 : lw_okq (⟨"TenTrials$Bonuses", "pop", "()I"⟩, 8) := ⟨⟨by decide +kernel, by decide +kernel⟩, List.mem_of_getElem? (i := 101) (by decide +kernel), List.mem_of_getElem? (i := 888) (by decide +kernel), List.mem_of_getElem? (i := 889) (by decide +kernel)⟩
theorem lw_p36 : lw_okq (⟨"TenTrials", "hasBonus", "(I)Z"⟩, 12) := ⟨⟨by decide +kernel, by decide +kernel⟩, List.mem_of_getElem? (i := 22) (by decide +kernel), List.mem_of_getElem? (i := 908) (by decide +kernel), List.mem_of_getElem? (i := 909) (by decide +kernel)⟩
theorem lw_p37 : lw_okq (⟨"TenTrials", "scoreNow", "(I)LTenTrials$Score;"⟩, 12) := ⟨⟨by decide +kernel, by decide +kernel⟩, List.mem_of_getElem? (i := 22) (by decide +kernel), List.mem_of_getElem? (i := 912) (by decide +kernel), List.mem_of_getElem? (i := 913) (by decide +kernel)⟩
theorem lw_p38 : lw_okq (⟨"TenTrials$Contest", "betterThan", "(II)I"⟩, 8) := ⟨⟨by decide +kernel, by decide +kernel⟩, List.mem_of_getElem? (i := 93) (by decide +kernel), List.mem_of_getElem? (i := 956) (by decide +kernel), List.mem_of_getElem? (i := 957) (by decide +kernel)⟩
theorem lw_p39 : lw_okq (⟨"TenTrials", "mostInOpen", "(I)I"⟩, 12) := ⟨⟨by decide +kernel, by decide +kernel⟩, List.mem_of_getElem? (i := 22) (by decide +kernel), List.mem_of_getElem? (i := 972) (by decide +kernel), List.mem_of_getElem? (i := 973) (by decide +kernel)⟩
theorem lw_p40 : lw_okq (⟨"TenTrials", "putInOpen", "(ILTenTrials$Score;I)V"⟩, 12) := ⟨⟨by decide +kernel, by decide +kernel⟩, List.mem_of_getElem? (i := 22) (by decide +kernel), List.mem_of_getElem? (i := 977) (by decide +kernel), List.mem_of_getElem? (i := 978) (by decide +kernel)⟩
theorem lw_p41 : lw_okq (⟨"TenTrials", "isAheadNow", "(II)Z"⟩, 12) := ⟨⟨by decide +kernel, by decide +kernel⟩, List.mem_of_getElem? (i := 22) (by decide +kernel), List.mem_of_getElem? (i := 1000) (by decide +kernel), List.mem_of_getElem? (i := 1001) (by decide +kernel)⟩
theorem lw_p42 : lw_okq (⟨"TenTrials", "shareByEvent", "(II)V"⟩, 12) := ⟨⟨by decide +kernel, by decide +kernel⟩, List.mem_of_getElem? (i := 22) (by decide +kernel), List.mem_of_getElem? (i := 1039) (by decide +kernel), List.mem_of_getElem? (i := 1040) (by decide +kernel)⟩
theorem lw_p43 : lw_okq (⟨"TenTrials$Shares", "bestFrom", "(II)I"⟩, 3) := ⟨⟨by decide +kernel, by decide +kernel⟩, List.mem_of_getElem? (i := 366) (by decide +kernel), List.mem_of_getElem? (i := 1047) (by decide +kernel), List.mem_of_getElem? (i := 1048) (by decide +kernel)⟩
theorem lw_p44 : lw_okq (⟨"TenTrials$Shares", "fewestFor", "(II)I"⟩, 3) := ⟨⟨by decide +kernel, by decide +kernel⟩, List.mem_of_getElem? (i := 366) (by decide +kernel), List.mem_of_getElem? (i := 1060) (by decide +kernel), List.mem_of_getElem? (i := 1061) (by decide +kernel)⟩
theorem lw_p45 : lw_okq (⟨"TenTrials", "standingsBy", "(I)LTenTrials$Standings;"⟩, 12) := ⟨⟨by decide +kernel, by decide +kernel⟩, List.mem_of_getElem? (i := 22) (by decide +kernel), List.mem_of_getElem? (i := 1072) (by decide +kernel), List.mem_of_getElem? (i := 1073) (by decide +kernel)⟩
theorem lw_p46 : lw_okq (⟨"TenTrials$Standings", "swung", "(II)I"⟩, 6) := ⟨⟨by decide +kernel, by decide +kernel⟩, List.mem_of_getElem? (i := 337) (by decide +kernel), List.mem_of_getElem? (i := 1082) (by decide +kernel), List.mem_of_getElem? (i := 1083) (by decide +kernel)⟩
theorem lw_p47 : lw_okq (⟨"TenTrials$Standings", "draw", "(I)I"⟩, 6) := ⟨⟨by decide +kernel, by decide +kernel⟩, List.mem_of_getElem? (i := 337) (by decide +kernel), List.mem_of_getElem? (i := 1086) (by decide +kernel), List.mem_of_getElem? (i := 1087) (by decide +kernel)⟩
def lw_privs_3 : List (MethodName × Nat) := [(⟨"TenTrials", "hasAthlete", "(I)Z"⟩, 12), (⟨"TenTrials", "standingsNow", "()LTenTrials$Standings;"⟩, 12), (⟨"TenTrials$Bonuses", "push", "(I)V"⟩, 8), (⟨"TenTrials$Bonuses", "pop", "()I"⟩, 8), (⟨"TenTrials", "hasBonus", "(I)Z"⟩, 12), (⟨"TenTrials", "scoreNow", "(I)LTenTrials$Score;"⟩, 12), (⟨"TenTrials$Contest", "betterThan", "(II)I"⟩, 8), (⟨"TenTrials", "mostInOpen", "(I)I"⟩, 12), (⟨"TenTrials", "putInOpen", "(ILTenTrials$Score;I)V"⟩, 12), (⟨"TenTrials", "isAheadNow", "(II)Z"⟩, 12), (⟨"TenTrials", "shareByEvent", "(II)V"⟩, 12), (⟨"TenTrials$Shares", "bestFrom", "(II)I"⟩, 3), (⟨"TenTrials$Shares", "fewestFor", "(II)I"⟩, 3), (⟨"TenTrials", "standingsBy", "(I)LTenTrials$Standings;"⟩, 12), (⟨"TenTrials$Standings", "swung", "(II)I"⟩, 6), (⟨"TenTrials$Standings", "draw", "(I)I"⟩, 6)]
theorem lw_r3 : ∀ q ∈ lw_privs_3, lw_okq q := List.forall_mem_cons.mpr ⟨lw_p32, List.forall_mem_cons.mpr ⟨lw_p33, List.forall_mem_cons.mpr ⟨lw_p34, List.forall_mem_cons.mpr ⟨lw_p35, List.forall_mem_cons.mpr ⟨lw_p36, List.forall_mem_cons.mpr ⟨lw_p37, List.forall_mem_cons.mpr ⟨lw_p38, List.forall_mem_cons.mpr ⟨lw_p39, List.forall_mem_cons.mpr ⟨lw_p40, List.forall_mem_cons.mpr ⟨lw_p41, List.forall_mem_cons.mpr ⟨lw_p42, List.forall_mem_cons.mpr ⟨lw_p43, List.forall_mem_cons.mpr ⟨lw_p44, List.forall_mem_cons.mpr ⟨lw_p45, List.forall_mem_cons.mpr ⟨lw_p46, List.forall_mem_cons.mpr ⟨lw_p47, fun _ h => absurd h List.not_mem_nil⟩⟩⟩⟩⟩⟩⟩⟩⟩⟩⟩⟩⟩⟩⟩⟩
theorem lw_p48 : lw_okq (⟨"TenTrials", "changeMark", "(II)I"⟩, 12) := ⟨⟨by decide +kernel, by decide +kernel⟩, List.mem_of_getElem? (i := 22) (by decide +kernel), List.mem_of_getElem? (i := 1110) (by decide +kernel), List.mem_of_getElem? (i := 1111) (by decide +kernel)⟩
theorem lw_p49 : lw_okq (⟨"TenTrials$History", "forgetOldest", "()V"⟩, 5) := ⟨⟨by decide +kernel, by decide +kernel⟩, List.mem_of_getElem? (i := 264) (by decide +kernel), List.mem_of_getElem? (i := 1118) (by decide +kernel), List.mem_of_getElem? (i := 1119) (by decide +kernel)⟩
theorem lw_p50 : lw_okq (⟨"TenTrials", "shareByAthlete", "(I)V"⟩, 12) := ⟨⟨by decide +kernel, by decide +kernel⟩, List.mem_of_getElem? (i := 22) (by decide +kernel), List.mem_of_getElem? (i := 1192) (by decide +kernel), List.mem_of_getElem? (i := 1193) (by decide +kernel)⟩
theorem lw_p51 : lw_okq (⟨"TenTrials", "sumOfTops", "(I)I"⟩, 12) := ⟨⟨by decide +kernel, by decide +kernel⟩, List.mem_of_getElem? (i := 22) (by decide +kernel), List.mem_of_getElem? (i := 1216) (by decide +kernel), List.mem_of_getElem? (i := 1217) (by decide +kernel)⟩
theorem lw_p52 : lw_okq (⟨"TenTrialsModel", "puts4", "(I)V"⟩, 48) := ⟨⟨by decide +kernel, by decide +kernel⟩, List.mem_of_getElem? (i := 1220) (by decide +kernel), List.mem_of_getElem? (i := 1375) (by decide +kernel), List.mem_of_getElem? (i := 1376) (by decide +kernel)⟩
theorem lw_p53 : lw_okq (⟨"TenTrialsModel", "advance", "()V"⟩, 48) := ⟨⟨by decide +kernel, by decide +kernel⟩, List.mem_of_getElem? (i := 1220) (by decide +kernel), List.mem_of_getElem? (i := 1390) (by decide +kernel), List.mem_of_getElem? (i := 1391) (by decide +kernel)⟩
theorem lw_p54 : lw_okq (⟨"TenTrialsModel", "see", "(I)I"⟩, 48) := ⟨⟨by decide +kernel, by decide +kernel⟩, List.mem_of_getElem? (i := 1220) (by decide +kernel), List.mem_of_getElem? (i := 1394) (by decide +kernel), List.mem_of_getElem? (i := 1395) (by decide +kernel)⟩
theorem lw_p55 : lw_okq (⟨"TenTrialsModel", "good", "()Z"⟩, 48) := ⟨⟨by decide +kernel, by decide +kernel⟩, List.mem_of_getElem? (i := 1220) (by decide +kernel), List.mem_of_getElem? (i := 1404) (by decide +kernel), List.mem_of_getElem? (i := 1405) (by decide +kernel)⟩
theorem lw_p56 : lw_okq (⟨"TenTrialsModel", "readLine", "()V"⟩, 48) := ⟨⟨by decide +kernel, by decide +kernel⟩, List.mem_of_getElem? (i := 1220) (by decide +kernel), List.mem_of_getElem? (i := 1408) (by decide +kernel), List.mem_of_getElem? (i := 1409) (by decide +kernel)⟩
theorem lw_p57 : lw_okq (⟨"TenTrialsModel", "isWord", "(Ljava/lang/String;)Z"⟩, 48) := ⟨⟨by decide +kernel, by decide +kernel⟩, List.mem_of_getElem? (i := 1220) (by decide +kernel), List.mem_of_getElem? (i := 1413) (by decide +kernel), List.mem_of_getElem? (i := 1414) (by decide +kernel)⟩
theorem lw_p58 : lw_okq (⟨"TenTrialsModel", "readEvent", "()V"⟩, 48) := ⟨⟨by decide +kernel, by decide +kernel⟩, List.mem_of_getElem? (i := 1220) (by decide +kernel), List.mem_of_getElem? (i := 1419) (by decide +kernel), List.mem_of_getElem? (i := 1420) (by decide +kernel)⟩
theorem lw_p59 : lw_okq (⟨"TenTrialsModel", "errs", "(II)V"⟩, 48) := ⟨⟨by decide +kernel, by decide +kernel⟩, List.mem_of_getElem? (i := 1220) (by decide +kernel), List.mem_of_getElem? (i := 1423) (by decide +kernel), List.mem_of_getElem? (i := 1424) (by decide +kernel)⟩
theorem lw_p60 : lw_okq (⟨"TenTrialsModel", "passes", "(Ljava/lang/String;)V"⟩, 48) := ⟨⟨by decide +kernel, by decide +kernel⟩, List.mem_of_getElem? (i := 1220) (by decide +kernel), List.mem_of_getElem? (i := 1430) (by decide +kernel), List.mem_of_getElem? (i := 1431) (by decide +kernel)⟩
theorem lw_p61 : lw_okq (⟨"TenTrialsModel", "eats", "(Ljava/lang/String;)Z"⟩, 48) := ⟨⟨by decide +kernel, by decide +kernel⟩, List.mem_of_getElem? (i := 1220) (by decide +kernel), List.mem_of_getElem? (i := 1434) (by decide +kernel), List.mem_of_getElem? (i := 1435) (by decide +kernel)⟩
theorem lw_p62 : lw_okq (⟨"TenTrialsModel", "number", "(II)I"⟩, 48) := ⟨⟨by decide +kernel, by decide +kernel⟩, List.mem_of_getElem? (i := 1220) (by decide +kernel), List.mem_of_getElem? (i := 1439) (by decide +kernel), List.mem_of_getElem? (i := 1440) (by decide +kernel)⟩
theorem lw_p63 : lw_okq (⟨"TenTrialsModel", "readTable", "(I)V"⟩, 48) := ⟨⟨by decide +kernel, by decide +kernel⟩, List.mem_of_getElem? (i := 1220) (by decide +kernel), List.mem_of_getElem? (i := 1447) (by decide +kernel), List.mem_of_getElem? (i := 1448) (by decide +kernel)⟩
def lw_privs_4 : List (MethodName × Nat) := [(⟨"TenTrials", "changeMark", "(II)I"⟩, 12), (⟨"TenTrials$History", "forgetOldest", "()V"⟩, 5), (⟨"TenTrials", "shareByAthlete", "(I)V"⟩, 12), (⟨"TenTrials", "sumOfTops", "(I)I"⟩, 12), (⟨"TenTrialsModel", "puts4", "(I)V"⟩, 48), (⟨"TenTrialsModel", "advance", "()V"⟩, 48), (⟨"TenTrialsModel", "see", "(I)I"⟩, 48), (⟨"TenTrialsModel", "good", "()Z"⟩, 48), (⟨"TenTrialsModel", "readLine", "()V"⟩, 48), (⟨"TenTrialsModel", "isWord", "(Ljava/lang/String;)Z"⟩, 48), (⟨"TenTrialsModel", "readEvent", "()V"⟩, 48), (⟨"TenTrialsModel", "errs", "(II)V"⟩, 48), (⟨"TenTrialsModel", "passes", "(Ljava/lang/String;)V"⟩, 48), (⟨"TenTrialsModel", "eats", "(Ljava/lang/String;)Z"⟩, 48), (⟨"TenTrialsModel", "number", "(II)I"⟩, 48), (⟨"TenTrialsModel", "readTable", "(I)V"⟩, 48)]
theorem lw_r4 : ∀ q ∈ lw_privs_4, lw_okq q := List.forall_mem_cons.mpr ⟨lw_p48, List.forall_mem_cons.mpr ⟨lw_p49, List.forall_mem_cons.mpr ⟨lw_p50, List.forall_mem_cons.mpr ⟨lw_p51, List.forall_mem_cons.mpr ⟨lw_p52, List.forall_mem_cons.mpr ⟨lw_p53, List.forall_mem_cons.mpr ⟨lw_p54, List.forall_mem_cons.mpr ⟨lw_p55, List.forall_mem_cons.mpr ⟨lw_p56, List.forall_mem_cons.mpr ⟨lw_p57, List.forall_mem_cons.mpr ⟨lw_p58, List.forall_mem_cons.mpr ⟨lw_p59, List.forall_mem_cons.mpr ⟨lw_p60, List.forall_mem_cons.mpr ⟨lw_p61, List.forall_mem_cons.mpr ⟨lw_p62, List.forall_mem_cons.mpr ⟨lw_p63, fun _ h => absurd h List.not_mem_nil⟩⟩⟩⟩⟩⟩⟩⟩⟩⟩⟩⟩⟩⟩⟩⟩
theorem lw_p64 : lw_okq (⟨"TenTrialsModel", "passesByte", "(I)V"⟩, 48) := ⟨⟨by decide +kernel, by decide +kernel⟩, List.mem_of_getElem? (i := 1220) (by decide +kernel), List.mem_of_getElem? (i := 1452) (by decide +kernel), List.mem_of_getElem? (i := 1453) (by decide +kernel)⟩
theorem lw_p65 : lw_okq (⟨"TenTrialsModel", "eatsByte", "(I)Z"⟩, 48) := ⟨⟨by decide +kernel, by decide +kernel⟩, List.mem_of_getElem? (i := 1220) (by decide +kernel), List.mem_of_getElem? (i := 1456) (by decide +kernel), List.mem_of_getElem? (i := 1457) (by decide +kernel)⟩
theorem lw_p66 : lw_okq (⟨"TenTrialsModel", "isByte", "(I)Z"⟩, 48) := ⟨⟨by decide +kernel, by decide +kernel⟩, List.mem_of_getElem? (i := 1220) (by decide +kernel), List.mem_of_getElem? (i := 1460) (by decide +kernel), List.mem_of_getElem? (i := 1461) (by decide +kernel)⟩
theorem lw_p67 : lw_okq (⟨"TenTrialsModel", "readTie", "()V"⟩, 48) := ⟨⟨by decide +kernel, by decide +kernel⟩, List.mem_of_getElem? (i := 1220) (by decide +kernel), List.mem_of_getElem? (i := 1467) (by decide +kernel), List.mem_of_getElem? (i := 1468) (by decide +kernel)⟩
theorem lw_p68 : lw_okq (⟨"TenTrialsModel", "readBonus", "()V"⟩, 48) := ⟨⟨by decide +kernel, by decide +kernel⟩, List.mem_of_getElem? (i := 1220) (by decide +kernel), List.mem_of_getElem? (i := 1475) (by decide +kernel), List.mem_of_getElem? (i := 1476) (by decide +kernel)⟩
theorem lw_p69 : lw_okq (⟨"TenTrialsModel", "readTest", "()V"⟩, 48) := ⟨⟨by decide +kernel, by decide +kernel⟩, List.mem_of_getElem? (i := 1220) (by decide +kernel), List.mem_of_getElem? (i := 1480) (by decide +kernel), List.mem_of_getElem? (i := 1481) (by decide +kernel)⟩
theorem lw_p70 : lw_okq (⟨"TenTrialsModel", "readSide", "()V"⟩, 48) := ⟨⟨by decide +kernel, by decide +kernel⟩, List.mem_of_getElem? (i := 1220) (by decide +kernel), List.mem_of_getElem? (i := 1484) (by decide +kernel), List.mem_of_getElem? (i := 1485) (by decide +kernel)⟩
theorem lw_p71 : lw_okq (⟨"TenTrialsModel", "readFact", "()V"⟩, 48) := ⟨⟨by decide +kernel, by decide +kernel⟩, List.mem_of_getElem? (i := 1220) (by decide +kernel), List.mem_of_getElem? (i := 1488) (by decide +kernel), List.mem_of_getElem? (i := 1489) (by decide +kernel)⟩
theorem lw_p72 : lw_okq (⟨"TenTrialsModel", "opens", "()V"⟩, 48) := ⟨⟨by decide +kernel, by decide +kernel⟩, List.mem_of_getElem? (i := 1220) (by decide +kernel), List.mem_of_getElem? (i := 1493) (by decide +kernel), List.mem_of_getElem? (i := 1494) (by decide +kernel)⟩
theorem lw_p73 : lw_okq (⟨"TenTrialsModel", "puts", "(II)V"⟩, 48) := ⟨⟨by decide +kernel, by decide +kernel⟩, List.mem_of_getElem? (i := 1220) (by decide +kernel), List.mem_of_getElem? (i := 1497) (by decide +kernel), List.mem_of_getElem? (i := 1498) (by decide +kernel)⟩
theorem lw_p74 : lw_okq (⟨"TenTrialsModel", "readSum", "()V"⟩, 48) := ⟨⟨by decide +kernel, by decide +kernel⟩, List.mem_of_getElem? (i := 1220) (by decide +kernel), List.mem_of_getElem? (i := 1501) (by decide +kernel), List.mem_of_getElem? (i := 1502) (by decide +kernel)⟩
theorem lw_p75 : lw_okq (⟨"TenTrialsModel", "readTerm", "()V"⟩, 48) := ⟨⟨by decide +kernel, by decide +kernel⟩, List.mem_of_getElem? (i := 1220) (by decide +kernel), List.mem_of_getElem? (i := 1505) (by decide +kernel), List.mem_of_getElem? (i := 1506) (by decide +kernel)⟩
theorem lw_p76 : lw_okq (⟨"TenTrialsModel", "isEvent", "(I)Z"⟩, 48) := ⟨⟨by decide +kernel, by decide +kernel⟩, List.mem_of_getElem? (i := 1220) (by decide +kernel), List.mem_of_getElem? (i := 1531) (by decide +kernel), List.mem_of_getElem? (i := 1532) (by decide +kernel)⟩
theorem lw_p77 : lw_okq (⟨"TenTrialsModel", "ofEvent", "(II)I"⟩, 48) := ⟨⟨by decide +kernel, by decide +kernel⟩, List.mem_of_getElem? (i := 1220) (by decide +kernel), List.mem_of_getElem? (i := 1536) (by decide +kernel), List.mem_of_getElem? (i := 1537) (by decide +kernel)⟩
theorem lw_p78 : lw_okq (⟨"TenTrialsModel", "pointsOf", "(II)I"⟩, 48) := ⟨⟨by decide +kernel, by decide +kernel⟩, List.mem_of_getElem? (i := 1220) (by decide +kernel), List.mem_of_getElem? (i := 1547) (by decide +kernel), List.mem_of_getElem? (i := 1548) (by decide +kernel)⟩
theorem lw_p79 : lw_okq (⟨"TenTrialsModel", "tableOf", "(IJ)J"⟩, 48) := ⟨⟨by decide +kernel, by decide +kernel⟩, List.mem_of_getElem? (i := 1220) (by decide +kernel), List.mem_of_getElem? (i := 1557) (by decide +kernel), List.mem_of_getElem? (i := 1558) (by decide +kernel)⟩
def lw_privs_5 : List (MethodName × Nat) := [(⟨"TenTrialsModel", "passesByte", "(I)V"⟩, 48), (⟨"TenTrialsModel", "eatsByte", "(I)Z"⟩, 48), (⟨"TenTrialsModel", "isByte", "(I)Z"⟩, 48), (⟨"TenTrialsModel", "readTie", "()V"⟩, 48), (⟨"TenTrialsModel", "readBonus", "()V"⟩, 48), (⟨"TenTrialsModel", "readTest", "()V"⟩, 48), (⟨"TenTrialsModel", "readSide", "()V"⟩, 48), (⟨"TenTrialsModel", "readFact", "()V"⟩, 48), (⟨"TenTrialsModel", "opens", "()V"⟩, 48), (⟨"TenTrialsModel", "puts", "(II)V"⟩, 48), (⟨"TenTrialsModel", "readSum", "()V"⟩, 48), (⟨"TenTrialsModel", "readTerm", "()V"⟩, 48), (⟨"TenTrialsModel", "isEvent", "(I)Z"⟩, 48), (⟨"TenTrialsModel", "ofEvent", "(II)I"⟩, 48), (⟨"TenTrialsModel", "pointsOf", "(II)I"⟩, 48), (⟨"TenTrialsModel", "tableOf", "(IJ)J"⟩, 48)]
theorem lw_r5 : ∀ q ∈ lw_privs_5, lw_okq q := List.forall_mem_cons.mpr ⟨lw_p64, List.forall_mem_cons.mpr ⟨lw_p65, List.forall_mem_cons.mpr ⟨lw_p66, List.forall_mem_cons.mpr ⟨lw_p67, List.forall_mem_cons.mpr ⟨lw_p68, List.forall_mem_cons.mpr ⟨lw_p69, List.forall_mem_cons.mpr ⟨lw_p70, List.forall_mem_cons.mpr ⟨lw_p71, List.forall_mem_cons.mpr ⟨lw_p72, List.forall_mem_cons.mpr ⟨lw_p73, List.forall_mem_cons.mpr ⟨lw_p74, List.forall_mem_cons.mpr ⟨lw_p75, List.forall_mem_cons.mpr ⟨lw_p76, List.forall_mem_cons.mpr ⟨lw_p77, List.forall_mem_cons.mpr ⟨lw_p78, List.forall_mem_cons.mpr ⟨lw_p79, fun _ h => absurd h List.not_mem_nil⟩⟩⟩⟩⟩⟩⟩⟩⟩⟩⟩⟩⟩⟩⟩⟩
theorem lw_p80 : lw_okq (⟨"TenTrialsModel", "worstOf", "(II)I"⟩, 48) := ⟨⟨by decide +kernel, by decide +kernel⟩, List.mem_of_getElem? (i := 1220) (by decide +kernel), List.mem_of_getElem? (i := 1567) (by decide +kernel), List.mem_of_getElem? (i := 1568) (by decide +kernel)⟩
theorem lw_p81 : lw_okq (⟨"TenTrialsModel", "topOf", "(I)I"⟩, 48) := ⟨⟨by decide +kernel, by decide +kernel⟩, List.mem_of_getElem? (i := 1220) (by decide +kernel), List.mem_of_getElem? (i := 1571) (by decide +kernel), List.mem_of_getElem? (i := 1572) (by decide +kernel)⟩
theorem lw_p82 : lw_okq (⟨"TenTrialsModel", "markBy", "(II)I"⟩, 48) := ⟨⟨by decide +kernel, by decide +kernel⟩, List.mem_of_getElem? (i := 1220) (by decide +kernel), List.mem_of_getElem? (i := 1575) (by decide +kernel), List.mem_of_getElem? (i := 1576) (by decide +kernel)⟩
theorem lw_p83 : lw_okq (⟨"TenTrialsModel", "isBoth", "(II)Z"⟩, 48) := ⟨⟨by decide +kernel, by decide +kernel⟩, List.mem_of_getElem? (i := 1220) (by decide +kernel), List.mem_of_getElem? (i := 1596) (by decide +kernel), List.mem_of_getElem? (i := 1597) (by decide +kernel)⟩
theorem lw_p84 : lw_okq (⟨"TenTrialsModel", "isOne", "(I)Z"⟩, 48) := ⟨⟨by decide +kernel, by decide +kernel⟩, List.mem_of_getElem? (i := 1220) (by decide +kernel), List.mem_of_getElem? (i := 1600) (by decide +kernel), List.mem_of_getElem? (i := 1601) (by decide +kernel)⟩
theorem lw_p85 : lw_okq (⟨"TenTrialsModel", "lays", "([I)V"⟩, 48) := ⟨⟨by decide +kernel, by decide +kernel⟩, List.mem_of_getElem? (i := 1220) (by decide +kernel), List.mem_of_getElem? (i := 1612) (by decide +kernel), List.mem_of_getElem? (i := 1613) (by decide +kernel)⟩
theorem lw_p86 : lw_okq (⟨"TenTrialsModel", "totalOf", "(I)I"⟩, 48) := ⟨⟨by decide +kernel, by decide +kernel⟩, List.mem_of_getElem? (i := 1220) (by decide +kernel), List.mem_of_getElem? (i := 1616) (by decide +kernel), List.mem_of_getElem? (i := 1617) (by decide +kernel)⟩
theorem lw_p87 : lw_okq (⟨"TenTrialsModel", "sumOf", "(I)I"⟩, 48) := ⟨⟨by decide +kernel, by decide +kernel⟩, List.mem_of_getElem? (i := 1220) (by decide +kernel), List.mem_of_getElem? (i := 1620) (by decide +kernel), List.mem_of_getElem? (i := 1621) (by decide +kernel)⟩
theorem lw_p88 : lw_okq (⟨"TenTrialsModel", "paidOf", "(I)I"⟩, 48) := ⟨⟨by decide +kernel, by decide +kernel⟩, List.mem_of_getElem? (i := 1220) (by decide +kernel), List.mem_of_getElem? (i := 1624) (by decide +kernel), List.mem_of_getElem? (i := 1625) (by decide +kernel)⟩
theorem lw_p89 : lw_okq (⟨"TenTrialsModel", "isSo", "(II)Z"⟩, 48) := ⟨⟨by decide +kernel, by decide +kernel⟩, List.mem_of_getElem? (i := 1220) (by decide +kernel), List.mem_of_getElem? (i := 1628) (by decide +kernel), List.mem_of_getElem? (i := 1629) (by decide +kernel)⟩
theorem lw_p90 : lw_okq (⟨"TenTrialsModel", "asked", "(III)J"⟩, 48) := ⟨⟨by decide +kernel, by decide +kernel⟩, List.mem_of_getElem? (i := 1220) (by decide +kernel), List.mem_of_getElem? (i := 1632) (by decide +kernel), List.mem_of_getElem? (i := 1633) (by decide +kernel)⟩
theorem lw_p91 : lw_okq (⟨"TenTrialsModel", "doneOf", "(I)I"⟩, 48) := ⟨⟨by decide +kernel, by decide +kernel⟩, List.mem_of_getElem? (i := 1220) (by decide +kernel), List.mem_of_getElem? (i := 1636) (by decide +kernel), List.mem_of_getElem? (i := 1637) (by decide +kernel)⟩
theorem lw_p92 : lw_okq (⟨"TenTrialsModel", "bestOf", "(I)I"⟩, 48) := ⟨⟨by decide +kernel, by decide +kernel⟩, List.mem_of_getElem? (i := 1220) (by decide +kernel), List.mem_of_getElem? (i := 1640) (by decide +kernel), List.mem_of_getElem? (i := 1641) (by decide +kernel)⟩
theorem lw_p93 : lw_okq (⟨"TenTrialsModel", "leastOf", "(I)I"⟩, 48) := ⟨⟨by decide +kernel, by decide +kernel⟩, List.mem_of_getElem? (i := 1220) (by decide +kernel), List.mem_of_getElem? (i := 1645) (by decide +kernel), List.mem_of_getElem? (i := 1646) (by decide +kernel)⟩
theorem lw_p94 : lw_okq (⟨"TenTrialsModel", "winsOf", "(I)I"⟩, 48) := ⟨⟨by decide +kernel, by decide +kernel⟩, List.mem_of_getElem? (i := 1220) (by decide +kernel), List.mem_of_getElem? (i := 1652) (by decide +kernel), List.mem_of_getElem? (i := 1653) (by decide +kernel)⟩
theorem lw_p95 : lw_okq (⟨"TenTrialsModel", "placed", "(I)I"⟩, 48) := ⟨⟨by decide +kernel, by decide +kernel⟩, List.mem_of_getElem? (i := 1220) (by decide +kernel), List.mem_of_getElem? (i := 1668) (by decide +kernel), List.mem_of_getElem? (i := 1669) (by decide +kernel)⟩
def lw_privs_6 : List (MethodName × Nat) := [(⟨"TenTrialsModel", "worstOf", "(II)I"⟩, 48), (⟨"TenTrialsModel", "topOf", "(I)I"⟩, 48), (⟨"TenTrialsModel", "markBy", "(II)I"⟩, 48), (⟨"TenTrialsModel", "isBoth", "(II)Z"⟩, 48), (⟨"TenTrialsModel", "isOne", "(I)Z"⟩, 48), (⟨"TenTrialsModel", "lays", "([I)V"⟩, 48), (⟨"TenTrialsModel", "totalOf", "(I)I"⟩, 48), (⟨"TenTrialsModel", "sumOf", "(I)I"⟩, 48), (⟨"TenTrialsModel", "paidOf", "(I)I"⟩, 48), (⟨"TenTrialsModel", "isSo", "(II)Z"⟩, 48), (⟨"TenTrialsModel", "asked", "(III)J"⟩, 48), (⟨"TenTrialsModel", "doneOf", "(I)I"⟩, 48), (⟨"TenTrialsModel", "bestOf", "(I)I"⟩, 48), (⟨"TenTrialsModel", "leastOf", "(I)I"⟩, 48), (⟨"TenTrialsModel", "winsOf", "(I)I"⟩, 48), (⟨"TenTrialsModel", "placed", "(I)I"⟩, 48)]
theorem lw_r6 : ∀ q ∈ lw_privs_6, lw_okq q := List.forall_mem_cons.mpr ⟨lw_p80, List.forall_mem_cons.mpr ⟨lw_p81, List.forall_mem_cons.mpr ⟨lw_p82, List.forall_mem_cons.mpr ⟨lw_p83, List.forall_mem_cons.mpr ⟨lw_p84, List.forall_mem_cons.mpr ⟨lw_p85, List.forall_mem_cons.mpr ⟨lw_p86, List.forall_mem_cons.mpr ⟨lw_p87, List.forall_mem_cons.mpr ⟨lw_p88, List.forall_mem_cons.mpr ⟨lw_p89, List.forall_mem_cons.mpr ⟨lw_p90, List.forall_mem_cons.mpr ⟨lw_p91, List.forall_mem_cons.mpr ⟨lw_p92, List.forall_mem_cons.mpr ⟨lw_p93, List.forall_mem_cons.mpr ⟨lw_p94, List.forall_mem_cons.mpr ⟨lw_p95, fun _ h => absurd h List.not_mem_nil⟩⟩⟩⟩⟩⟩⟩⟩⟩⟩⟩⟩⟩⟩⟩⟩
theorem lw_p96 : lw_okq (⟨"TenTrialsModel", "rankOf", "(I)I"⟩, 48) := ⟨⟨by decide +kernel, by decide +kernel⟩, List.mem_of_getElem? (i := 1220) (by decide +kernel), List.mem_of_getElem? (i := 1672) (by decide +kernel), List.mem_of_getElem? (i := 1673) (by decide +kernel)⟩
theorem lw_p97 : lw_okq (⟨"TenTrialsModel", "isAhead", "(II)Z"⟩, 48) := ⟨⟨by decide +kernel, by decide +kernel⟩, List.mem_of_getElem? (i := 1220) (by decide +kernel), List.mem_of_getElem? (i := 1676) (by decide +kernel), List.mem_of_getElem? (i := 1677) (by decide +kernel)⟩
theorem lw_p98 : lw_okq (⟨"TenTrialsModel", "leader", "(I)I"⟩, 48) := ⟨⟨by decide +kernel, by decide +kernel⟩, List.mem_of_getElem? (i := 1220) (by decide +kernel), List.mem_of_getElem? (i := 1688) (by decide +kernel), List.mem_of_getElem? (i := 1689) (by decide +kernel)⟩
theorem lw_p99 : lw_okq (⟨"TenTrialsModel", "isBetter", "(III)Z"⟩, 48) := ⟨⟨by decide +kernel, by decide +kernel⟩, List.mem_of_getElem? (i := 1220) (by decide +kernel), List.mem_of_getElem? (i := 1692) (by decide +kernel), List.mem_of_getElem? (i := 1693) (by decide +kernel)⟩
theorem lw_p100 : lw_okq (⟨"TenTrialsModel", "puts0", "(III)V"⟩, 48) := ⟨⟨by decide +kernel, by decide +kernel⟩, List.mem_of_getElem? (i := 1220) (by decide +kernel), List.mem_of_getElem? (i := 1704) (by decide +kernel), List.mem_of_getElem? (i := 1705) (by decide +kernel)⟩
theorem lw_p101 : lw_okq (⟨"TenTrialsModel", "trainedOf", "(III)I"⟩, 48) := ⟨⟨by decide +kernel, by decide +kernel⟩, List.mem_of_getElem? (i := 1220) (by decide +kernel), List.mem_of_getElem? (i := 1721) (by decide +kernel), List.mem_of_getElem? (i := 1722) (by decide +kernel)⟩
theorem lw_p102 : lw_okq (⟨"TenTrialsModel", "trainedWorth", "(III)I"⟩, 48) := ⟨⟨by decide +kernel, by decide +kernel⟩, List.mem_of_getElem? (i := 1220) (by decide +kernel), List.mem_of_getElem? (i := 1733) (by decide +kernel), List.mem_of_getElem? (i := 1734) (by decide +kernel)⟩
theorem lw_p103 : lw_okq (⟨"TenTrialsModel", "laysSpread", "(I)V"⟩, 48) := ⟨⟨by decide +kernel, by decide +kernel⟩, List.mem_of_getElem? (i := 1220) (by decide +kernel), List.mem_of_getElem? (i := 1742) (by decide +kernel), List.mem_of_getElem? (i := 1743) (by decide +kernel)⟩
theorem lw_p104 : lw_okq (⟨"TenTrialsModel", "spreadBy", "(IIII)I"⟩, 48) := ⟨⟨by decide +kernel, by decide +kernel⟩, List.mem_of_getElem? (i := 1220) (by decide +kernel), List.mem_of_getElem? (i := 1751) (by decide +kernel), List.mem_of_getElem? (i := 1752) (by decide +kernel)⟩
theorem lw_p105 : lw_okq (⟨"TenTrialsModel", "betterOf", "(II)I"⟩, 48) := ⟨⟨by decide +kernel, by decide +kernel⟩, List.mem_of_getElem? (i := 1220) (by decide +kernel), List.mem_of_getElem? (i := 1763) (by decide +kernel), List.mem_of_getElem? (i := 1764) (by decide +kernel)⟩
theorem lw_p106 : lw_okq (⟨"TenTrialsModel", "laysSquad", "()V"⟩, 48) := ⟨⟨by decide +kernel, by decide +kernel⟩, List.mem_of_getElem? (i := 1220) (by decide +kernel), List.mem_of_getElem? (i := 1779) (by decide +kernel), List.mem_of_getElem? (i := 1780) (by decide +kernel)⟩
theorem lw_p107 : lw_okq (⟨"TenTrialsModel", "squadOf", "(III)I"⟩, 48) := ⟨⟨by decide +kernel, by decide +kernel⟩, List.mem_of_getElem? (i := 1220) (by decide +kernel), List.mem_of_getElem? (i := 1785) (by decide +kernel), List.mem_of_getElem? (i := 1786) (by decide +kernel)⟩
theorem lw_p108 : lw_okq (⟨"TenTrialsModel", "meets", "(J)V"⟩, 48) := ⟨⟨by decide +kernel, by decide +kernel⟩, List.mem_of_getElem? (i := 1220) (by decide +kernel), List.mem_of_getElem? (i := 1813) (by decide +kernel), List.mem_of_getElem? (i := 1814) (by decide +kernel)⟩
theorem lw_p109 : lw_okq (⟨"TenTrialsModel", "draw", "(I)I"⟩, 48) := ⟨⟨by decide +kernel, by decide +kernel⟩, List.mem_of_getElem? (i := 1220) (by decide +kernel), List.mem_of_getElem? (i := 1817) (by decide +kernel), List.mem_of_getElem? (i := 1818) (by decide +kernel)⟩
theorem lw_p110 : lw_okq (⟨"TenTrialsModel", "keeps", "()V"⟩, 48) := ⟨⟨by decide +kernel, by decide +kernel⟩, List.mem_of_getElem? (i := 1220) (by decide +kernel), List.mem_of_getElem? (i := 1843) (by decide +kernel), List.mem_of_getElem? (i := 1844) (by decide +kernel)⟩
theorem lw_p111 : lw_okq (⟨"TenTrialsModel", "saysNumber", "(I)V"⟩, 48) := ⟨⟨by decide +kernel, by decide +kernel⟩, List.mem_of_getElem? (i := 1220) (by decide +kernel), List.mem_of_getElem? (i := 1867) (by decide +kernel), List.mem_of_getElem? (i := 1868) (by decide +kernel)⟩
def lw_privs_7 : List (MethodName × Nat) := [(⟨"TenTrialsModel", "rankOf", "(I)I"⟩, 48), (⟨"TenTrialsModel", "isAhead", "(II)Z"⟩, 48), (⟨"TenTrialsModel", "leader", "(I)I"⟩, 48), (⟨"TenTrialsModel", "isBetter", "(III)Z"⟩, 48), (⟨"TenTrialsModel", "puts0", "(III)V"⟩, 48), (⟨"TenTrialsModel", "trainedOf", "(III)I"⟩, 48), (⟨"TenTrialsModel", "trainedWorth", "(III)I"⟩, 48), (⟨"TenTrialsModel", "laysSpread", "(I)V"⟩, 48), (⟨"TenTrialsModel", "spreadBy", "(IIII)I"⟩, 48), (⟨"TenTrialsModel", "betterOf", "(II)I"⟩, 48), (⟨"TenTrialsModel", "laysSquad", "()V"⟩, 48), (⟨"TenTrialsModel", "squadOf", "(III)I"⟩, 48), (⟨"TenTrialsModel", "meets", "(J)V"⟩, 48), (⟨"TenTrialsModel", "draw", "(I)I"⟩, 48), (⟨"TenTrialsModel", "keeps", "()V"⟩, 48), (⟨"TenTrialsModel", "saysNumber", "(I)V"⟩, 48)]
theorem lw_r7 : ∀ q ∈ lw_privs_7, lw_okq q := List.forall_mem_cons.mpr ⟨lw_p96, List.forall_mem_cons.mpr ⟨lw_p97, List.forall_mem_cons.mpr ⟨lw_p98, List.forall_mem_cons.mpr ⟨lw_p99, List.forall_mem_cons.mpr ⟨lw_p100, List.forall_mem_cons.mpr ⟨lw_p101, List.forall_mem_cons.mpr ⟨lw_p102, List.forall_mem_cons.mpr ⟨lw_p103, List.forall_mem_cons.mpr ⟨lw_p104, List.forall_mem_cons.mpr ⟨lw_p105, List.forall_mem_cons.mpr ⟨lw_p106, List.forall_mem_cons.mpr ⟨lw_p107, List.forall_mem_cons.mpr ⟨lw_p108, List.forall_mem_cons.mpr ⟨lw_p109, List.forall_mem_cons.mpr ⟨lw_p110, List.forall_mem_cons.mpr ⟨lw_p111, fun _ h => absurd h List.not_mem_nil⟩⟩⟩⟩⟩⟩⟩⟩⟩⟩⟩⟩⟩⟩⟩⟩
theorem lw_p112 : lw_okq (⟨"TenTrialsModel", "says", "(I)V"⟩, 48) := ⟨⟨by decide +kernel, by decide +kernel⟩, List.mem_of_getElem? (i := 1220) (by decide +kernel), List.mem_of_getElem? (i := 1871) (by decide +kernel), List.mem_of_getElem? (i := 1872) (by decide +kernel)⟩
def lw_privs_8 : List (MethodName × Nat) := [(⟨"TenTrialsModel", "says", "(I)V"⟩, 48)]
theorem lw_r8 : ∀ q ∈ lw_privs_8, lw_okq q := List.forall_mem_cons.mpr ⟨lw_p112, fun _ h => absurd h List.not_mem_nil⟩
def lw_privs : List (MethodName × Nat) := lw_privs_1 ++ (lw_privs_2 ++ (lw_privs_3 ++ (lw_privs_4 ++ (lw_privs_5 ++ (lw_privs_6 ++ (lw_privs_7 ++ (lw_privs_8)))))))
def lw_tbl : List Cond := k2_sels lw_privs ++ tables_1
theorem lw_privs_ok : ∀ q ∈ lw_privs, lw_okq q := by
  show ∀ q ∈ lw_privs_1 ++ (lw_privs_2 ++ (lw_privs_3 ++ (lw_privs_4 ++ (lw_privs_5 ++ (lw_privs_6 ++ (lw_privs_7 ++ (lw_privs_8))))))), lw_okq q
  exact List.forall_mem_append.mpr ⟨lw_r1, List.forall_mem_append.mpr ⟨lw_r2, List.forall_mem_append.mpr ⟨lw_r3, List.forall_mem_append.mpr ⟨lw_r4, List.forall_mem_append.mpr ⟨lw_r5, List.forall_mem_append.mpr ⟨lw_r6, List.forall_mem_append.mpr ⟨lw_r7, lw_r8⟩⟩⟩⟩⟩⟩⟩
-- ===== end of PART A; then your names; then what follows =====
end
section
def RX0 : String := "TenTrials$Bonuses"
def TX0 : u_T := fun k => match k with
  | 0 => ("TenTrials$Bonuses", "amounts", "[I", true)
  | 1 => ("TenTrials$Bonuses", "size", "I", false)
  | 2 => ("TenTrials$Bonuses", "starts", "[I", true)
  | 3 => ("TenTrials$Bonuses", "code", "[I", true)
  | 4 => ("TenTrials$Bonuses", "codeLength", "I", false)
  | 5 => ("TenTrials$Bonuses", "sumOfAmounts", "I", false)
  | 6 => ("TenTrials$Bonuses", "stack", "[I", true)
  | _ => ("TenTrials$Bonuses", "height", "I", false)
def tyX0 : Nat → FieldType := fun k => match k with
  | 0 => .array .int
  | 1 => .int
  | 2 => .array .int
  | 3 => .array .int
  | 4 => .int
  | 5 => .int
  | 6 => .array .int
  | _ => .int
theorem nmX0 : ∀ a, a < 8 → ∀ b, b < 8 → a ≠ b → (TX0 a).2.1 ≠ (TX0 b).2.1 := by decide +kernel
theorem tyX0_ok : ∀ k, k < 8 → parseFieldDescriptor (TX0 k).2.2.1 = some (tyX0 k) := by decide +kernel
def RX1 : String := "TenTrials$Contest"
def TX1 : u_T := fun k => match k with
  | 0 => ("TenTrials$Contest", "trials", "[LTenTrials$Trial;", true)
  | 1 => ("TenTrials$Contest", "marks", "[I", true)
  | 2 => ("TenTrials$Contest", "gainMost", "[I", true)
  | 3 => ("TenTrials$Contest", "gainHours", "[I", true)
  | 4 => ("TenTrials$Contest", "bonuses", "LTenTrials$Bonuses;", true)
  | 5 => ("TenTrials$Contest", "events", "I", false)
  | 6 => ("TenTrials$Contest", "athletes", "I", false)
  | _ => ("TenTrials$Contest", "tie", "I", false)
def tyX1 : Nat → FieldType := fun k => match k with
  | 0 => .array (.object "TenTrials$Trial")
  | 1 => .array .int
  | 2 => .array .int
  | 3 => .array .int
  | 4 => .object "TenTrials$Bonuses"
  | 5 => .int
  | 6 => .int
  | _ => .int
theorem nmX1 : ∀ a, a < 8 → ∀ b, b < 8 → a ≠ b → (TX1 a).2.1 ≠ (TX1 b).2.1 := by decide +kernel
theorem tyX1_ok : ∀ k, k < 8 → parseFieldDescriptor (TX1 k).2.2.1 = some (tyX1 k) := by decide +kernel
def RX2 : String := "TenTrials$History"
def TX2 : u_T := fun k => match k with
  | 0 => ("TenTrials$History", "acts", "[I", true)
  | 1 => ("TenTrials$History", "cells", "[I", true)
  | 2 => ("TenTrials$History", "firsts", "[I", true)
  | 3 => ("TenTrials$History", "seconds", "[I", true)
  | _ => ("TenTrials$History", "size", "I", false)
def tyX2 : Nat → FieldType := fun k => match k with
  | 0 => .array .int
  | 1 => .array .int
  | 2 => .array .int
  | 3 => .array .int
  | _ => .int
theorem nmX2 : ∀ a, a < 5 → ∀ b, b < 5 → a ≠ b → (TX2 a).2.1 ≠ (TX2 b).2.1 := by decide +kernel
theorem tyX2_ok : ∀ k, k < 5 → parseFieldDescriptor (TX2 k).2.2.1 = some (tyX2 k) := by decide +kernel
def RX3 : String := "TenTrials$Page"
def TX3 : u_T := fun k => match k with
  | 0 => ("TenTrials$Page", "bytes", "[B", true)
  | _ => ("TenTrials$Page", "length", "I", false)
def tyX3 : Nat → FieldType := fun k => match k with
  | 0 => .array .byte
  | _ => .int
theorem nmX3 : ∀ a, a < 2 → ∀ b, b < 2 → a ≠ b → (TX3 a).2.1 ≠ (TX3 b).2.1 := by decide +kernel
theorem tyX3_ok : ∀ k, k < 2 → parseFieldDescriptor (TX3 k).2.2.1 = some (tyX3 k) := by decide +kernel
def RX4 : String := "TenTrials$Reader"
def TX4 : u_T := fun k => match k with
  | 0 => ("TenTrials$Reader", "fault", "I", false)
  | 1 => ("TenTrials$Reader", "place", "I", false)
  | 2 => ("TenTrials$Reader", "tokens", "LTenTrials$Tokens;", true)
  | 3 => ("TenTrials$Reader", "draft", "LTenTrials$Contest;", false)
  | 4 => ("TenTrials$Reader", "at", "I", false)
  | 5 => ("TenTrials$Reader", "number", "I", false)
  | 6 => ("TenTrials$Reader", "cell", "I", false)
  | _ => ("TenTrials$Reader", "tieTold", "Z", false)
def tyX4 : Nat → FieldType := fun k => match k with
  | 0 => .int
  | 1 => .int
  | 2 => .object "TenTrials$Tokens"
  | 3 => .object "TenTrials$Contest"
  | 4 => .int
  | 5 => .int
  | 6 => .int
  | _ => .boolean
theorem nmX4 : ∀ a, a < 8 → ∀ b, b < 8 → a ≠ b → (TX4 a).2.1 ≠ (TX4 b).2.1 := by decide +kernel
theorem tyX4_ok : ∀ k, k < 8 → parseFieldDescriptor (TX4 k).2.2.1 = some (tyX4 k) := by decide +kernel
def RX5 : String := "TenTrials$Score"
def TX5 : u_T := fun k => match k with
  | 0 => ("TenTrials$Score", "points", "[I", true)
  | 1 => ("TenTrials$Score", "marked", "[Z", true)
  | 2 => ("TenTrials$Score", "events", "I", false)
  | 3 => ("TenTrials$Score", "sum", "I", false)
  | 4 => ("TenTrials$Score", "done", "I", false)
  | 5 => ("TenTrials$Score", "most", "I", false)
  | 6 => ("TenTrials$Score", "fewest", "I", false)
  | 7 => ("TenTrials$Score", "paid", "I", false)
  | _ => ("TenTrials$Score", "firsts", "I", false)
def tyX5 : Nat → FieldType := fun k => match k with
  | 0 => .array .int
  | 1 => .array .boolean
  | 2 => .int
  | 3 => .int
  | 4 => .int
  | 5 => .int
  | 6 => .int
  | 7 => .int
  | _ => .int
theorem nmX5 : ∀ a, a < 9 → ∀ b, b < 9 → a ≠ b → (TX5 a).2.1 ≠ (TX5 b).2.1 := by decide +kernel
theorem tyX5_ok : ∀ k, k < 9 → parseFieldDescriptor (TX5 k).2.2.1 = some (tyX5 k) := by decide +kernel
def RX6 : String := "TenTrials$Shares"
def TX6 : u_T := fun k => match k with
  | 0 => ("TenTrials$Shares", "worths", "[[I", true)
  | 1 => ("TenTrials$Shares", "bests", "[[I", true)
  | _ => ("TenTrials$Shares", "rows", "I", false)
def tyX6 : Nat → FieldType := fun k => match k with
  | 0 => .array (.array .int)
  | 1 => .array (.array .int)
  | _ => .int
theorem nmX6 : ∀ a, a < 3 → ∀ b, b < 3 → a ≠ b → (TX6 a).2.1 ≠ (TX6 b).2.1 := by decide +kernel
theorem tyX6_ok : ∀ k, k < 3 → parseFieldDescriptor (TX6 k).2.2.1 = some (tyX6 k) := by decide +kernel
def RX7 : String := "TenTrials$Sign"
def TX7 : u_T := fun k => match k with
  | _ => ("", "", "", false)
def tyX7 : Nat → FieldType := fun k => match k with
  | _ => .int
theorem nmX7 : ∀ a, a < 0 → ∀ b, b < 0 → a ≠ b → (TX7 a).2.1 ≠ (TX7 b).2.1 := by decide +kernel
theorem tyX7_ok : ∀ k, k < 0 → parseFieldDescriptor (TX7 k).2.2.1 = some (tyX7 k) := by decide +kernel
def RX8 : String := "TenTrials$Standings"
def TX8 : u_T := fun k => match k with
  | 0 => ("TenTrials$Standings", "scores", "[LTenTrials$Score;", true)
  | 1 => ("TenTrials$Standings", "athletes", "I", false)
  | 2 => ("TenTrials$Standings", "events", "I", false)
  | 3 => ("TenTrials$Standings", "tie", "I", false)
  | 4 => ("TenTrials$Standings", "drawn", "[I", true)
  | _ => ("TenTrials$Standings", "x", "J", false)
def tyX8 : Nat → FieldType := fun k => match k with
  | 0 => .array (.object "TenTrials$Score")
  | 1 => .int
  | 2 => .int
  | 3 => .int
  | 4 => .array .int
  | _ => .long
theorem nmX8 : ∀ a, a < 6 → ∀ b, b < 6 → a ≠ b → (TX8 a).2.1 ≠ (TX8 b).2.1 := by decide +kernel
theorem tyX8_ok : ∀ k, k < 6 → parseFieldDescriptor (TX8 k).2.2.1 = some (tyX8 k) := by decide +kernel
def RX9 : String := "TenTrials$Tokens"
def TX9 : u_T := fun k => match k with
  | 0 => ("TenTrials$Tokens", "signs", "[LTenTrials$Sign;", true)
  | 1 => ("TenTrials$Tokens", "places", "[I", true)
  | 2 => ("TenTrials$Tokens", "numbers", "[I", true)
  | 3 => ("TenTrials$Tokens", "size", "I", false)
  | _ => ("TenTrials$Tokens", "known", "[LTenTrials$Sign;", true)
def tyX9 : Nat → FieldType := fun k => match k with
  | 0 => .array (.object "TenTrials$Sign")
  | 1 => .array .int
  | 2 => .array .int
  | 3 => .int
  | _ => .array (.object "TenTrials$Sign")
theorem nmX9 : ∀ a, a < 5 → ∀ b, b < 5 → a ≠ b → (TX9 a).2.1 ≠ (TX9 b).2.1 := by decide +kernel
theorem tyX9_ok : ∀ k, k < 5 → parseFieldDescriptor (TX9 k).2.2.1 = some (tyX9 k) := by decide +kernel
def RX10 : String := "TenTrials$Trial"
def TX10 : u_T := fun k => match k with
  | 0 => ("TenTrials$Trial", "moreIsBetter", "Z", false)
  | 1 => ("TenTrials$Trial", "base", "I", false)
  | 2 => ("TenTrials$Trial", "curve", "I", false)
  | 3 => ("TenTrials$Trial", "factor", "I", false)
  | 4 => ("TenTrials$Trial", "divisor", "I", false)
  | 5 => ("TenTrials$Trial", "swing", "I", false)
  | 6 => ("TenTrials$Trial", "twos", "I", false)
  | 7 => ("TenTrials$Trial", "ways", "[I", true)
  | _ => ("TenTrials$Trial", "worths", "[I", true)
def tyX10 : Nat → FieldType := fun k => match k with
  | 0 => .boolean
  | 1 => .int
  | 2 => .int
  | 3 => .int
  | 4 => .int
  | 5 => .int
  | 6 => .int
  | 7 => .array .int
  | _ => .array .int
theorem nmX10 : ∀ a, a < 9 → ∀ b, b < 9 → a ≠ b → (TX10 a).2.1 ≠ (TX10 b).2.1 := by decide +kernel
theorem tyX10_ok : ∀ k, k < 9 → parseFieldDescriptor (TX10 k).2.2.1 = some (tyX10 k) := by decide +kernel
def RX11 : String := "TenTrials"
def TX11 : u_T := fun k => match k with
  | 0 => ("TenTrials", "tape", "[B", true)
  | 1 => ("TenTrials", "tapeLength", "I", false)
  | 2 => ("TenTrials", "out", "LTenTrials$Page;", true)
  | 3 => ("TenTrials", "reader", "LTenTrials$Reader;", true)
  | 4 => ("TenTrials", "history", "LTenTrials$History;", true)
  | 5 => ("TenTrials", "contest", "LTenTrials$Contest;", false)
  | 6 => ("TenTrials", "loaded", "Z", false)
  | 7 => ("TenTrials", "score", "LTenTrials$Score;", true)
  | 8 => ("TenTrials", "standings", "LTenTrials$Standings;", true)
  | 9 => ("TenTrials", "byEvent", "LTenTrials$Shares;", true)
  | 10 => ("TenTrials", "byAthlete", "LTenTrials$Shares;", true)
  | _ => ("TenTrials", "tops", "[I", true)
def tyX11 : Nat → FieldType := fun k => match k with
  | 0 => .array .byte
  | 1 => .int
  | 2 => .object "TenTrials$Page"
  | 3 => .object "TenTrials$Reader"
  | 4 => .object "TenTrials$History"
  | 5 => .object "TenTrials$Contest"
  | 6 => .boolean
  | 7 => .object "TenTrials$Score"
  | 8 => .object "TenTrials$Standings"
  | 9 => .object "TenTrials$Shares"
  | 10 => .object "TenTrials$Shares"
  | _ => .array .int
theorem nmX11 : ∀ a, a < 12 → ∀ b, b < 12 → a ≠ b → (TX11 a).2.1 ≠ (TX11 b).2.1 := by decide +kernel
theorem tyX11_ok : ∀ k, k < 12 → parseFieldDescriptor (TX11 k).2.2.1 = some (tyX11 k) := by decide +kernel
def RX12 : String := "TenTrialsModel"
def TX12 : u_T := fun k => match k with
  | 0 => ("TenTrialsModel", "thrown", "I", false)
  | 1 => ("TenTrialsModel", "isThere", "Z", false)
  | 2 => ("TenTrialsModel", "events", "I", false)
  | 3 => ("TenTrialsModel", "people", "I", false)
  | 4 => ("TenTrialsModel", "tests", "I", false)
  | 5 => ("TenTrialsModel", "tie", "I", false)
  | 6 => ("TenTrialsModel", "event", "[I", true)
  | 7 => ("TenTrialsModel", "bonus", "[I", true)
  | 8 => ("TenTrialsModel", "testAt", "[I", true)
  | 9 => ("TenTrialsModel", "code", "[I", true)
  | 10 => ("TenTrialsModel", "marks", "[I", true)
  | 11 => ("TenTrialsModel", "gainOf", "[I", true)
  | 12 => ("TenTrialsModel", "gainIn", "[I", true)
  | 13 => ("TenTrialsModel", "freshEvents", "I", false)
  | 14 => ("TenTrialsModel", "freshPeople", "I", false)
  | 15 => ("TenTrialsModel", "freshTests", "I", false)
  | 16 => ("TenTrialsModel", "freshTie", "I", false)
  | 17 => ("TenTrialsModel", "freshCode", "I", false)
  | 18 => ("TenTrialsModel", "tieTold", "Z", false)
  | 19 => ("TenTrialsModel", "freshEvent", "[I", true)
  | 20 => ("TenTrialsModel", "freshBonus", "[I", true)
  | 21 => ("TenTrialsModel", "freshAt", "[I", true)
  | 22 => ("TenTrialsModel", "fresh", "[I", true)
  | 23 => ("TenTrialsModel", "freshMark", "[I", true)
  | 24 => ("TenTrialsModel", "freshGain", "[I", true)
  | 25 => ("TenTrialsModel", "freshIn", "[I", true)
  | 26 => ("TenTrialsModel", "tape", "[B", true)
  | 27 => ("TenTrialsModel", "taped", "I", false)
  | 28 => ("TenTrialsModel", "size", "I", false)
  | 29 => ("TenTrialsModel", "at", "I", false)
  | 30 => ("TenTrialsModel", "from", "I", false)
  | 31 => ("TenTrialsModel", "token", "I", false)
  | 32 => ("TenTrialsModel", "value", "I", false)
  | 33 => ("TenTrialsModel", "deep", "I", false)
  | 34 => ("TenTrialsModel", "faultKind", "I", false)
  | 35 => ("TenTrialsModel", "faultPlace", "I", false)
  | 36 => ("TenTrialsModel", "worthOf", "[I", true)
  | 37 => ("TenTrialsModel", "isMarked", "[Z", true)
  | 38 => ("TenTrialsModel", "pile", "[J", true)
  | 39 => ("TenTrialsModel", "mostBy", "[I", true)
  | 40 => ("TenTrialsModel", "ownBy", "[I", true)
  | 41 => ("TenTrialsModel", "squadBy", "[I", true)
  | 42 => ("TenTrialsModel", "drawnMarks", "[I", true)
  | 43 => ("TenTrialsModel", "drawn", "J", false)
  | 44 => ("TenTrialsModel", "acts", "I", false)
  | 45 => ("TenTrialsModel", "kept", "[I", true)
  | 46 => ("TenTrialsModel", "told", "[B", true)
  | _ => ("TenTrialsModel", "toldMany", "I", false)
def tyX12 : Nat → FieldType := fun k => match k with
  | 0 => .int
  | 1 => .boolean
  | 2 => .int
  | 3 => .int
  | 4 => .int
  | 5 => .int
  | 6 => .array .int
  | 7 => .array .int
  | 8 => .array .int
  | 9 => .array .int
  | 10 => .array .int
  | 11 => .array .int
  | 12 => .array .int
  | 13 => .int
  | 14 => .int
  | 15 => .int
  | 16 => .int
  | 17 => .int
  | 18 => .boolean
  | 19 => .array .int
  | 20 => .array .int
  | 21 => .array .int
  | 22 => .array .int
  | 23 => .array .int
  | 24 => .array .int
  | 25 => .array .int
  | 26 => .array .byte
  | 27 => .int
  | 28 => .int
  | 29 => .int
  | 30 => .int
  | 31 => .int
  | 32 => .int
  | 33 => .int
  | 34 => .int
  | 35 => .int
  | 36 => .array .int
  | 37 => .array .boolean
  | 38 => .array .long
  | 39 => .array .int
  | 40 => .array .int
  | 41 => .array .int
  | 42 => .array .int
  | 43 => .long
  | 44 => .int
  | 45 => .array .int
  | 46 => .array .byte
  | _ => .int
theorem nmX12 : ∀ a, a < 48 → ∀ b, b < 48 → a ≠ b → (TX12 a).2.1 ≠ (TX12 b).2.1 := by decide +kernel
theorem tyX12_ok : ∀ k, k < 48 → parseFieldDescriptor (TX12 k).2.2.1 = some (tyX12 k) := by decide +kernel
def RJx8e188 : String := "java/lang/Cloneable"
def RJx29ce0 : String := "java/lang/Enum"
def RJ9 : String := "java/lang/Math"
def RJ0 : String := "java/lang/String"
def RJ1 : String := "java/lang/StringLatin1"
def RJ2 : String := "java/lang/StringUTF16"
def RJ10 : String := "java/lang/System"
def RJ3 : String := "jdk/internal/util/Preconditions"
/-- the classes whose objects the world holds, by number -/
def cls : List vw_C := [(RX0, TX0, 8), (RX1, TX1, 8), (RX2, TX2, 5), (RX3, TX3, 2), (RX4, TX4, 8), (RX5, TX5, 9), (RX6, TX6, 3), (RX0, TX0, 8), (RX8, TX8, 6), (RX9, TX9, 5), (RX10, TX10, 9), (RX11, TX11, 12), (RX12, TX12, 48)]
/-- a method: its name, bytes, locals, answer -/
abbrev MI : Type := MethodName × ByteArray × Nat × Option FieldType
def mX0_init : MI := (⟨RX0, "<init>", "()V"⟩, prog_2_method_1_code, 1, none)
def mX0_clear : MI := (⟨RX0, "clear", "()V"⟩, prog_2_method_2_code, 1, none)
def mX0_emit : MI := (⟨RX0, "emit", "(II)V"⟩, prog_2_method_3_code, 3, none)
def mX0_finish : MI := (⟨RX0, "finish", "(I)V"⟩, prog_2_method_4_code, 2, none)
def mX0_isSo : MI := (⟨RX0, "isSo", "(ILTenTrials$Score;)Z"⟩, prog_2_method_5_code, 6, (some .boolean))
def mX0_push : MI := (⟨RX0, "push", "(I)V"⟩, prog_2_method_6_code, 2, none)
def mX0_pop : MI := (⟨RX0, "pop", "()I"⟩, prog_2_method_7_code, 1, (some .int))
def mX0_join : MI := (⟨RX0, "join", "(III)I"⟩, prog_2_method_8_code, 3, (some .int))
def mX0_pay : MI := (⟨RX0, "pay", "(LTenTrials$Score;)V"⟩, prog_2_method_9_code, 3, none)
def mX0_comesTo : MI := (⟨RX0, "comesTo", "(LTenTrials$Score;I)Z"⟩, prog_2_method_10_code, 3, (some .boolean))
def mX1_init : MI := (⟨RX1, "<init>", "()V"⟩, prog_3_method_1_code, 2, none)
def mX1_clear : MI := (⟨RX1, "clear", "()V"⟩, prog_3_method_2_code, 1, none)
def mX1_addAthlete : MI := (⟨RX1, "addAthlete", "()I"⟩, prog_3_method_3_code, 4, (some .int))
def mX1_markOf : MI := (⟨RX1, "markOf", "(II)I"⟩, prog_3_method_4_code, 3, (some .int))
def mX1_valueOf : MI := (⟨RX1, "valueOf", "(II)I"⟩, prog_3_method_5_code, 3, (some .int))
def mX1_markAfter : MI := (⟨RX1, "markAfter", "(III)I"⟩, prog_3_method_6_code, 7, (some .int))
def mX1_valueAfter : MI := (⟨RX1, "valueAfter", "(III)I"⟩, prog_3_method_7_code, 4, (some .int))
def mX1_athleteByMark : MI := (⟨RX1, "athleteByMark", "(II)I"⟩, prog_3_method_8_code, 4, (some .int))
def mX1_betterThan : MI := (⟨RX1, "betterThan", "(II)I"⟩, prog_3_method_9_code, 7, (some .int))
def mX2_init : MI := (⟨RX2, "<init>", "()V"⟩, prog_4_method_1_code, 1, none)
def mX2_clear : MI := (⟨RX2, "clear", "()V"⟩, prog_4_method_2_code, 1, none)
def mX2_note : MI := (⟨RX2, "note", "(IIII)V"⟩, prog_4_method_3_code, 5, none)
def mX2_forgetOldest : MI := (⟨RX2, "forgetOldest", "()V"⟩, prog_4_method_4_code, 1, none)
def mX2_takeBack : MI := (⟨RX2, "takeBack", "(LTenTrials$Contest;)Z"⟩, prog_4_method_5_code, 3, (some .boolean))
def mX3_init : MI := (⟨RX3, "<init>", "()V"⟩, prog_5_method_1_code, 1, none)
def mX3_clear : MI := (⟨RX3, "clear", "()V"⟩, prog_5_method_2_code, 1, none)
def mX3_put : MI := (⟨RX3, "put", "(I)V"⟩, prog_5_method_3_code, 2, none)
def mX3_putNumber : MI := (⟨RX3, "putNumber", "(I)V"⟩, prog_5_method_4_code, 4, none)
def mX4_init : MI := (⟨RX4, "<init>", "()V"⟩, prog_6_method_1_code, 1, none)
def mX4_readAll : MI := (⟨RX4, "readAll", "([BI)I"⟩, prog_6_method_2_code, 4, (some .int))
def mX4_exchange : MI := (⟨RX4, "exchange", "(LTenTrials$Contest;)LTenTrials$Contest;"⟩, prog_6_method_3_code, 3, (some (.object "TenTrials$Contest")))
def mX4_sees : MI := (⟨RX4, "sees", "(LTenTrials$Sign;)Z"⟩, prog_6_method_4_code, 2, (some .boolean))
def mX4_advance : MI := (⟨RX4, "advance", "()Z"⟩, prog_6_method_5_code, 1, (some .boolean))
def mX4_refuse : MI := (⟨RX4, "refuse", "(I)Z"⟩, prog_6_method_6_code, 2, (some .boolean))
def mX4_take : MI := (⟨RX4, "take", "(LTenTrials$Sign;)Z"⟩, prog_6_method_7_code, 2, (some .boolean))
def mX4_takeNumber : MI := (⟨RX4, "takeNumber", "(II)Z"⟩, prog_6_method_8_code, 3, (some .boolean))
def mX4_takeCell : MI := (⟨RX4, "takeCell", "()Z"⟩, prog_6_method_9_code, 2, (some .boolean))
def mX4_readLine : MI := (⟨RX4, "readLine", "()Z"⟩, prog_6_method_10_code, 1, (some .boolean))
def mX4_readEvent : MI := (⟨RX4, "readEvent", "()Z"⟩, prog_6_method_11_code, 3, (some .boolean))
def mX4_readFormula : MI := (⟨RX4, "readFormula", "(LTenTrials$Trial;)Z"⟩, prog_6_method_12_code, 2, (some .boolean))
def mX4_readTable : MI := (⟨RX4, "readTable", "(LTenTrials$Trial;)Z"⟩, prog_6_method_13_code, 4, (some .boolean))
def mX4_readTwo : MI := (⟨RX4, "readTwo", "(LTenTrials$Trial;)Z"⟩, prog_6_method_14_code, 5, (some .boolean))
def mX4_readTie : MI := (⟨RX4, "readTie", "()Z"⟩, prog_6_method_15_code, 1, (some .boolean))
def mX4_readAthlete : MI := (⟨RX4, "readAthlete", "()Z"⟩, prog_6_method_16_code, 1, (some .boolean))
def mX4_readMark : MI := (⟨RX4, "readMark", "()Z"⟩, prog_6_method_17_code, 1, (some .boolean))
def mX4_readGain : MI := (⟨RX4, "readGain", "()Z"⟩, prog_6_method_18_code, 1, (some .boolean))
def mX4_readBonus : MI := (⟨RX4, "readBonus", "()Z"⟩, prog_6_method_19_code, 2, (some .boolean))
def mX4_readTest : MI := (⟨RX4, "readTest", "(I)Z"⟩, prog_6_method_20_code, 3, (some .boolean))
def mX4_readSide : MI := (⟨RX4, "readSide", "(I)Z"⟩, prog_6_method_21_code, 3, (some .boolean))
def mX4_readFact : MI := (⟨RX4, "readFact", "(I)Z"⟩, prog_6_method_22_code, 3, (some .boolean))
def mX4_readNegation : MI := (⟨RX4, "readNegation", "(I)Z"⟩, prog_6_method_23_code, 2, (some .boolean))
def mX4_readBracket : MI := (⟨RX4, "readBracket", "(I)Z"⟩, prog_6_method_24_code, 2, (some .boolean))
def mX4_readSum : MI := (⟨RX4, "readSum", "(I)Z"⟩, prog_6_method_25_code, 4, (some .boolean))
def mX4_readTerm : MI := (⟨RX4, "readTerm", "(I)Z"⟩, prog_6_method_26_code, 2, (some .boolean))
def mX4_readWord : MI := (⟨RX4, "readWord", "()Z"⟩, prog_6_method_27_code, 2, (some .boolean))
def mX5_init : MI := (⟨RX5, "<init>", "()V"⟩, prog_7_method_1_code, 1, none)
def mX5_read : MI := (⟨RX5, "read", "(LTenTrials$Contest;[II)V"⟩, prog_7_method_2_code, 6, none)
def mX5_put : MI := (⟨RX5, "put", "(II)V"⟩, prog_7_method_3_code, 3, none)
def mX5_reckon : MI := (⟨RX5, "reckon", "()V"⟩, prog_7_method_4_code, 2, none)
def mX5_word : MI := (⟨RX5, "word", "(II)I"⟩, prog_7_method_5_code, 3, (some .int))
def mX6_init : MI := (⟨RX6, "<init>", "()V"⟩, prog_8_method_1_code, 1, none)
def mX6_settle : MI := (⟨RX6, "settle", "(II)V"⟩, prog_8_method_2_code, 5, none)
def mX6_bestFrom : MI := (⟨RX6, "bestFrom", "(II)I"⟩, prog_8_method_3_code, 5, (some .int))
def mX6_mostFor : MI := (⟨RX6, "mostFor", "(I)I"⟩, prog_8_method_4_code, 2, (some .int))
def mX6_shareOf : MI := (⟨RX6, "shareOf", "(II)I"⟩, prog_8_method_5_code, 5, (some .int))
def mX6_fewestFor : MI := (⟨RX6, "fewestFor", "(II)I"⟩, prog_8_method_6_code, 4, (some .int))
def mX7_values : MI := (⟨RX7, "values", "()[LTenTrials$Sign;"⟩, prog_9_method_1_code, 0, (some (.array (.object "TenTrials$Sign"))))
def mX7_isSpelled : MI := (⟨RX7, "isSpelled", "([BII)Z"⟩, prog_9_method_4_code, 5, (some .boolean))
def mX8_init : MI := (⟨RX8, "<init>", "()V"⟩, prog_10_method_1_code, 2, none)
def mX8_read : MI := (⟨RX8, "read", "(LTenTrials$Contest;[I)V"⟩, prog_10_method_2_code, 4, none)
def mX8_readDrawn : MI := (⟨RX8, "readDrawn", "(LTenTrials$Contest;I)V"⟩, prog_10_method_3_code, 6, none)
def mX8_swung : MI := (⟨RX8, "swung", "(II)I"⟩, prog_10_method_4_code, 4, (some .int))
def mX8_draw : MI := (⟨RX8, "draw", "(I)I"⟩, prog_10_method_5_code, 2, (some .int))
def mX8_countFirsts : MI := (⟨RX8, "countFirsts", "()V"⟩, prog_10_method_6_code, 4, none)
def mX8_mostIn : MI := (⟨RX8, "mostIn", "(I)I"⟩, prog_10_method_7_code, 4, (some .int))
def mX8_totalOf : MI := (⟨RX8, "totalOf", "(I)I"⟩, prog_10_method_8_code, 2, (some .int))
def mX8_isAhead : MI := (⟨RX8, "isAhead", "(II)Z"⟩, prog_10_method_9_code, 4, (some .boolean))
def mX8_placeOf : MI := (⟨RX8, "placeOf", "(I)I"⟩, prog_10_method_10_code, 4, (some .int))
def mX8_athleteAt : MI := (⟨RX8, "athleteAt", "(I)I"⟩, prog_10_method_11_code, 3, (some .int))
def mX9_init : MI := (⟨RX9, "<init>", "()V"⟩, prog_11_method_1_code, 1, none)
def mX9_split : MI := (⟨RX9, "split", "([BI)V"⟩, prog_11_method_2_code, 5, none)
def mX9_endOf : MI := (⟨RX9, "endOf", "([BII)I"⟩, prog_11_method_3_code, 4, (some .int))
def mX9_isLetter : MI := (⟨RX9, "isLetter", "(B)Z"⟩, prog_11_method_4_code, 1, (some .boolean))
def mX9_isDigit : MI := (⟨RX9, "isDigit", "(B)Z"⟩, prog_11_method_5_code, 1, (some .boolean))
def mX9_add : MI := (⟨RX9, "add", "([BII)V"⟩, prog_11_method_6_code, 4, none)
def mX9_numberOf : MI := (⟨RX9, "numberOf", "([BII)I"⟩, prog_11_method_7_code, 5, (some .int))
def mX9_signOf : MI := (⟨RX9, "signOf", "([BII)LTenTrials$Sign;"⟩, prog_11_method_8_code, 5, (some (.object "TenTrials$Sign")))
def mX10_init : MI := (⟨RX10, "<init>", "()V"⟩, prog_12_method_1_code, 1, none)
def mX10_valueOf : MI := (⟨RX10, "valueOf", "(I)I"⟩, prog_12_method_2_code, 3, (some .int))
def mX10_alongFormula : MI := (⟨RX10, "alongFormula", "(I)I"⟩, prog_12_method_3_code, 4, (some .int))
def mX10_rootOf : MI := (⟨RX10, "rootOf", "(I)I"⟩, prog_12_method_4_code, 4, (some .int))
def mX10_alongTable : MI := (⟨RX10, "alongTable", "(I)I"⟩, prog_12_method_5_code, 5, (some .int))
def mX10_mostValue : MI := (⟨RX10, "mostValue", "()I"⟩, prog_12_method_6_code, 1, (some .int))
def mX10_worstFor : MI := (⟨RX10, "worstFor", "(I)I"⟩, prog_12_method_7_code, 6, (some .int))
def mX10_markAt : MI := (⟨RX10, "markAt", "(I)I"⟩, prog_12_method_8_code, 2, (some .int))
def mX10_isBetter : MI := (⟨RX10, "isBetter", "(II)Z"⟩, prog_12_method_9_code, 3, (some .boolean))
def mX10_betterBy : MI := (⟨RX10, "betterBy", "(II)I"⟩, prog_12_method_10_code, 3, (some .int))
def mX11_init : MI := (⟨RX11, "<init>", "()V"⟩, prog_1_method_1_code, 1, none)
def mX11_feed : MI := (⟨RX11, "feed", "(IIIII)I"⟩, prog_1_method_2_code, 6, (some .int))
def mX11_end : MI := (⟨RX11, "end", "(I)I"⟩, prog_1_method_3_code, 2, (some .int))
def mX11_text : MI := (⟨RX11, "text", "()I"⟩, prog_1_method_4_code, 2, (some .int))
def mX11_fault : MI := (⟨RX11, "fault", "(I)I"⟩, prog_1_method_5_code, 2, (some .int))
def mX11_count : MI := (⟨RX11, "count", "(I)I"⟩, prog_1_method_6_code, 2, (some .int))
def mX11_event : MI := (⟨RX11, "event", "(II)I"⟩, prog_1_method_7_code, 4, (some .int))
def mX11_points : MI := (⟨RX11, "points", "(II)I"⟩, prog_1_method_8_code, 3, (some .int))
def mX11_worst : MI := (⟨RX11, "worst", "(II)I"⟩, prog_1_method_9_code, 3, (some .int))
def mX11_top : MI := (⟨RX11, "top", "(I)I"⟩, prog_1_method_10_code, 2, (some .int))
def mX11_same : MI := (⟨RX11, "same", "(III)I"⟩, prog_1_method_11_code, 4, (some .int))
def mX11_step : MI := (⟨RX11, "step", "(II)I"⟩, prog_1_method_12_code, 5, (some .int))
def mX11_mark : MI := (⟨RX11, "mark", "(II)I"⟩, prog_1_method_13_code, 3, (some .int))
def mX11_worth : MI := (⟨RX11, "worth", "(II)I"⟩, prog_1_method_14_code, 3, (some .int))
def mX11_of : MI := (⟨RX11, "of", "(II)I"⟩, prog_1_method_15_code, 4, (some .int))
def mX11_holds : MI := (⟨RX11, "holds", "(II)I"⟩, prog_1_method_16_code, 3, (some .int))
def mX11_bonus : MI := (⟨RX11, "bonus", "(I)I"⟩, prog_1_method_17_code, 2, (some .int))
def mX11_place : MI := (⟨RX11, "place", "(I)I"⟩, prog_1_method_18_code, 2, (some .int))
def mX11_rank : MI := (⟨RX11, "rank", "(I)I"⟩, prog_1_method_19_code, 2, (some .int))
def mX11_leads : MI := (⟨RX11, "leads", "(I)I"⟩, prog_1_method_20_code, 2, (some .int))
def mX11_dream : MI := (⟨RX11, "dream", "()I"⟩, prog_1_method_21_code, 4, (some .int))
def mX11_need : MI := (⟨RX11, "need", "(II)I"⟩, prog_1_method_22_code, 6, (some .int))
def mX11_needIn : MI := (⟨RX11, "needIn", "(III)I"⟩, prog_1_method_23_code, 7, (some .int))
def mX11_pass : MI := (⟨RX11, "pass", "(III)I"⟩, prog_1_method_24_code, 8, (some .int))
def mX11_trained : MI := (⟨RX11, "trained", "(III)I"⟩, prog_1_method_25_code, 4, (some .int))
def mX11_gains : MI := (⟨RX11, "gains", "(III)I"⟩, prog_1_method_26_code, 5, (some .int))
def mX11_pays : MI := (⟨RX11, "pays", "(II)I"⟩, prog_1_method_27_code, 7, (some .int))
def mX11_spread : MI := (⟨RX11, "spread", "(III)I"⟩, prog_1_method_28_code, 4, (some .int))
def mX11_hours : MI := (⟨RX11, "hours", "(II)I"⟩, prog_1_method_29_code, 4, (some .int))
def mX11_meet : MI := (⟨RX11, "meet", "(II)I"⟩, prog_1_method_30_code, 3, (some .int))
def mX11_met : MI := (⟨RX11, "met", "(II)I"⟩, prog_1_method_31_code, 3, (some .int))
def mX11_odds : MI := (⟨RX11, "odds", "(III)I"⟩, prog_1_method_32_code, 6, (some .int))
def mX11_sets : MI := (⟨RX11, "sets", "(III)I"⟩, prog_1_method_33_code, 4, (some .int))
def mX11_athlete : MI := (⟨RX11, "athlete", "()I"⟩, prog_1_method_34_code, 1, (some .int))
def mX11_gain : MI := (⟨RX11, "gain", "(IIII)I"⟩, prog_1_method_35_code, 7, (some .int))
def mX11_trains : MI := (⟨RX11, "trains", "(III)I"⟩, prog_1_method_36_code, 5, (some .int))
def mX11_tie : MI := (⟨RX11, "tie", "(I)I"⟩, prog_1_method_37_code, 3, (some .int))
def mX11_undo : MI := (⟨RX11, "undo", "()I"⟩, prog_1_method_38_code, 1, (some .int))
def mX11_tell : MI := (⟨RX11, "tell", "()I"⟩, prog_1_method_39_code, 4, (some .int))
def mX11_card : MI := (⟨RX11, "card", "(I)I"⟩, prog_1_method_40_code, 3, (some .int))
def mX11_octet : MI := (⟨RX11, "octet", "(I)I"⟩, prog_1_method_41_code, 2, (some .int))
def mX11_kth : MI := (⟨RX11, "kth", "(II)I"⟩, prog_1_method_42_code, 3, (some .int))
def mX11_behind : MI := (⟨RX11, "behind", "(I)I"⟩, prog_1_method_43_code, 7, (some .int))
def mX11_hour : MI := (⟨RX11, "hour", "(III)I"⟩, prog_1_method_44_code, 4, (some .int))
def mX11_squad : MI := (⟨RX11, "squad", "(II)I"⟩, prog_1_method_45_code, 3, (some .int))
def mX11_close : MI := (⟨RX11, "close", "()I"⟩, prog_1_method_46_code, 7, (some .int))
def mX11_team : MI := (⟨RX11, "team", "(I)I"⟩, prog_1_method_47_code, 5, (some .int))
def mX11_kinds : MI := (⟨RX11, "kinds", "(III)I"⟩, prog_1_method_48_code, 9, (some .int))
def mX11_lent : MI := (⟨RX11, "lent", "(III)I"⟩, prog_1_method_49_code, 5, (some .int))
def mX11_even : MI := (⟨RX11, "even", "(I)I"⟩, prog_1_method_50_code, 3, (some .int))
def mX11_append : MI := (⟨RX11, "append", "(I)V"⟩, prog_1_method_51_code, 3, none)
def mX11_hasEvent : MI := (⟨RX11, "hasEvent", "(I)Z"⟩, prog_1_method_52_code, 2, (some .boolean))
def mX11_hasAthlete : MI := (⟨RX11, "hasAthlete", "(I)Z"⟩, prog_1_method_53_code, 2, (some .boolean))
def mX11_hasCell : MI := (⟨RX11, "hasCell", "(II)Z"⟩, prog_1_method_54_code, 3, (some .boolean))
def mX11_hasBonus : MI := (⟨RX11, "hasBonus", "(I)Z"⟩, prog_1_method_55_code, 2, (some .boolean))
def mX11_isMark : MI := (⟨RX11, "isMark", "(I)Z"⟩, prog_1_method_56_code, 1, (some .boolean))
def mX11_isWithin : MI := (⟨RX11, "isWithin", "(III)Z"⟩, prog_1_method_57_code, 3, (some .boolean))
def mX11_cellOf : MI := (⟨RX11, "cellOf", "(II)I"⟩, prog_1_method_58_code, 2, (some .int))
def mX11_scoreNow : MI := (⟨RX11, "scoreNow", "(I)LTenTrials$Score;"⟩, prog_1_method_59_code, 2, (some (.object "TenTrials$Score")))
def mX11_standingsNow : MI := (⟨RX11, "standingsNow", "()LTenTrials$Standings;"⟩, prog_1_method_60_code, 1, (some (.object "TenTrials$Standings")))
def mX11_standingsBy : MI := (⟨RX11, "standingsBy", "(I)LTenTrials$Standings;"⟩, prog_1_method_61_code, 2, (some (.object "TenTrials$Standings")))
def mX11_isAheadNow : MI := (⟨RX11, "isAheadNow", "(II)Z"⟩, prog_1_method_62_code, 3, (some .boolean))
def mX11_mostInOpen : MI := (⟨RX11, "mostInOpen", "(I)I"⟩, prog_1_method_63_code, 5, (some .int))
def mX11_putInOpen : MI := (⟨RX11, "putInOpen", "(ILTenTrials$Score;I)V"⟩, prog_1_method_64_code, 5, none)
def mX11_shareByEvent : MI := (⟨RX11, "shareByEvent", "(II)V"⟩, prog_1_method_65_code, 5, none)
def mX11_shareByAthlete : MI := (⟨RX11, "shareByAthlete", "(I)V"⟩, prog_1_method_66_code, 4, none)
def mX11_changeMark : MI := (⟨RX11, "changeMark", "(II)I"⟩, prog_1_method_67_code, 4, (some .int))
def mX11_sumOfTops : MI := (⟨RX11, "sumOfTops", "(I)I"⟩, prog_1_method_68_code, 4, (some .int))
def mX12_init : MI := (⟨RX12, "<init>", "()V"⟩, prog_14_method_1_code, 1, none)
def mX12_in : MI := (⟨RX12, "in", "(JJJ)Z"⟩, prog_14_method_3_code, 6, (some .boolean))
def mX12_puts4 : MI := (⟨RX12, "puts4", "(I)V"⟩, prog_14_method_4_code, 3, none)
def mX12_feed : MI := (⟨RX12, "feed", "(IIIII)I"⟩, prog_14_method_5_code, 6, (some .int))
def mX12_end : MI := (⟨RX12, "end", "(I)I"⟩, prog_14_method_6_code, 2, (some .int))
def mX12_good : MI := (⟨RX12, "good", "()Z"⟩, prog_14_method_7_code, 1, (some .boolean))
def mX12_errs : MI := (⟨RX12, "errs", "(II)V"⟩, prog_14_method_8_code, 3, none)
def mX12_see : MI := (⟨RX12, "see", "(I)I"⟩, prog_14_method_9_code, 2, (some .int))
def mX12_advance : MI := (⟨RX12, "advance", "()V"⟩, prog_14_method_10_code, 2, none)
def mX12_isWord : MI := (⟨RX12, "isWord", "(Ljava/lang/String;)Z"⟩, prog_14_method_11_code, 4, (some .boolean))
def mX12_isByte : MI := (⟨RX12, "isByte", "(I)Z"⟩, prog_14_method_12_code, 2, (some .boolean))
def mX12_eats : MI := (⟨RX12, "eats", "(Ljava/lang/String;)Z"⟩, prog_14_method_13_code, 2, (some .boolean))
def mX12_eatsByte : MI := (⟨RX12, "eatsByte", "(I)Z"⟩, prog_14_method_14_code, 2, (some .boolean))
def mX12_passes : MI := (⟨RX12, "passes", "(Ljava/lang/String;)V"⟩, prog_14_method_15_code, 2, none)
def mX12_passesByte : MI := (⟨RX12, "passesByte", "(I)V"⟩, prog_14_method_16_code, 2, none)
def mX12_number : MI := (⟨RX12, "number", "(II)I"⟩, prog_14_method_17_code, 4, (some .int))
def mX12_readTable : MI := (⟨RX12, "readTable", "(I)V"⟩, prog_14_method_18_code, 5, none)
def mX12_readEvent : MI := (⟨RX12, "readEvent", "()V"⟩, prog_14_method_19_code, 3, none)
def mX12_puts : MI := (⟨RX12, "puts", "(II)V"⟩, prog_14_method_20_code, 3, none)
def mX12_opens : MI := (⟨RX12, "opens", "()V"⟩, prog_14_method_21_code, 1, none)
def mX12_readTerm : MI := (⟨RX12, "readTerm", "()V"⟩, prog_14_method_22_code, 2, none)
def mX12_readSum : MI := (⟨RX12, "readSum", "()V"⟩, prog_14_method_23_code, 2, none)
def mX12_readFact : MI := (⟨RX12, "readFact", "()V"⟩, prog_14_method_24_code, 2, none)
def mX12_readSide : MI := (⟨RX12, "readSide", "()V"⟩, prog_14_method_25_code, 1, none)
def mX12_readTest : MI := (⟨RX12, "readTest", "()V"⟩, prog_14_method_26_code, 1, none)
def mX12_readBonus : MI := (⟨RX12, "readBonus", "()V"⟩, prog_14_method_27_code, 1, none)
def mX12_readTie : MI := (⟨RX12, "readTie", "()V"⟩, prog_14_method_28_code, 2, none)
def mX12_readLine : MI := (⟨RX12, "readLine", "()V"⟩, prog_14_method_29_code, 6, none)
def mX12_text : MI := (⟨RX12, "text", "()I"⟩, prog_14_method_30_code, 3, (some .int))
def mX12_fault : MI := (⟨RX12, "fault", "(I)I"⟩, prog_14_method_31_code, 2, (some .int))
def mX12_count : MI := (⟨RX12, "count", "(I)I"⟩, prog_14_method_32_code, 2, (some .int))
def mX12_isEvent : MI := (⟨RX12, "isEvent", "(I)Z"⟩, prog_14_method_33_code, 2, (some .boolean))
def mX12_isOne : MI := (⟨RX12, "isOne", "(I)Z"⟩, prog_14_method_34_code, 2, (some .boolean))
def mX12_isMark : MI := (⟨RX12, "isMark", "(I)Z"⟩, prog_14_method_35_code, 1, (some .boolean))
def mX12_isBoth : MI := (⟨RX12, "isBoth", "(II)Z"⟩, prog_14_method_36_code, 3, (some .boolean))
def mX12_ofEvent : MI := (⟨RX12, "ofEvent", "(II)I"⟩, prog_14_method_37_code, 3, (some .int))
def mX12_event : MI := (⟨RX12, "event", "(II)I"⟩, prog_14_method_38_code, 3, (some .int))
def mX12_rootOf : MI := (⟨RX12, "rootOf", "(J)J"⟩, prog_14_method_39_code, 8, (some .long))
def mX12_tableOf : MI := (⟨RX12, "tableOf", "(IJ)J"⟩, prog_14_method_40_code, 12, (some .long))
def mX12_pointsOf : MI := (⟨RX12, "pointsOf", "(II)I"⟩, prog_14_method_41_code, 12, (some .int))
def mX12_points : MI := (⟨RX12, "points", "(II)I"⟩, prog_14_method_42_code, 3, (some .int))
def mX12_markBy : MI := (⟨RX12, "markBy", "(II)I"⟩, prog_14_method_43_code, 3, (some .int))
def mX12_topOf : MI := (⟨RX12, "topOf", "(I)I"⟩, prog_14_method_44_code, 2, (some .int))
def mX12_worstOf : MI := (⟨RX12, "worstOf", "(II)I"⟩, prog_14_method_45_code, 6, (some .int))
def mX12_worst : MI := (⟨RX12, "worst", "(II)I"⟩, prog_14_method_46_code, 3, (some .int))
def mX12_top : MI := (⟨RX12, "top", "(I)I"⟩, prog_14_method_47_code, 2, (some .int))
def mX12_same : MI := (⟨RX12, "same", "(III)I"⟩, prog_14_method_48_code, 4, (some .int))
def mX12_step : MI := (⟨RX12, "step", "(II)I"⟩, prog_14_method_49_code, 5, (some .int))
def mX12_lays : MI := (⟨RX12, "lays", "([I)V"⟩, prog_14_method_50_code, 5, none)
def mX12_sumOf : MI := (⟨RX12, "sumOf", "(I)I"⟩, prog_14_method_51_code, 4, (some .int))
def mX12_doneOf : MI := (⟨RX12, "doneOf", "(I)I"⟩, prog_14_method_52_code, 4, (some .int))
def mX12_bestOf : MI := (⟨RX12, "bestOf", "(I)I"⟩, prog_14_method_53_code, 4, (some .int))
def mX12_leastOf : MI := (⟨RX12, "leastOf", "(I)I"⟩, prog_14_method_54_code, 4, (some .int))
def mX12_winsOf : MI := (⟨RX12, "winsOf", "(I)I"⟩, prog_14_method_55_code, 7, (some .int))
def mX12_two : MI := (⟨RX12, "two", "(IJJ)J"⟩, prog_14_method_56_code, 5, (some .long))
def mX12_asked : MI := (⟨RX12, "asked", "(III)J"⟩, prog_14_method_57_code, 4, (some .long))
def mX12_isSo : MI := (⟨RX12, "isSo", "(II)Z"⟩, prog_14_method_58_code, 6, (some .boolean))
def mX12_paidOf : MI := (⟨RX12, "paidOf", "(I)I"⟩, prog_14_method_59_code, 4, (some .int))
def mX12_totalOf : MI := (⟨RX12, "totalOf", "(I)I"⟩, prog_14_method_60_code, 2, (some .int))
def mX12_isAhead : MI := (⟨RX12, "isAhead", "(II)Z"⟩, prog_14_method_61_code, 5, (some .boolean))
def mX12_rankOf : MI := (⟨RX12, "rankOf", "(I)I"⟩, prog_14_method_62_code, 4, (some .int))
def mX12_placed : MI := (⟨RX12, "placed", "(I)I"⟩, prog_14_method_63_code, 3, (some .int))
def mX12_mark : MI := (⟨RX12, "mark", "(II)I"⟩, prog_14_method_64_code, 3, (some .int))
def mX12_worth : MI := (⟨RX12, "worth", "(II)I"⟩, prog_14_method_65_code, 3, (some .int))
def mX12_of : MI := (⟨RX12, "of", "(II)I"⟩, prog_14_method_66_code, 3, (some .int))
def mX12_holds : MI := (⟨RX12, "holds", "(II)I"⟩, prog_14_method_67_code, 3, (some .int))
def mX12_bonus : MI := (⟨RX12, "bonus", "(I)I"⟩, prog_14_method_68_code, 2, (some .int))
def mX12_place : MI := (⟨RX12, "place", "(I)I"⟩, prog_14_method_69_code, 2, (some .int))
def mX12_rank : MI := (⟨RX12, "rank", "(I)I"⟩, prog_14_method_70_code, 2, (some .int))
def mX12_isBetter : MI := (⟨RX12, "isBetter", "(III)Z"⟩, prog_14_method_71_code, 4, (some .boolean))
def mX12_leader : MI := (⟨RX12, "leader", "(I)I"⟩, prog_14_method_72_code, 5, (some .int))
def mX12_leads : MI := (⟨RX12, "leads", "(I)I"⟩, prog_14_method_73_code, 2, (some .int))
def mX12_dream : MI := (⟨RX12, "dream", "()I"⟩, prog_14_method_74_code, 4, (some .int))
def mX12_puts0 : MI := (⟨RX12, "puts0", "(III)V"⟩, prog_14_method_75_code, 4, none)
def mX12_need : MI := (⟨RX12, "need", "(II)I"⟩, prog_14_method_76_code, 6, (some .int))
def mX12_needIn : MI := (⟨RX12, "needIn", "(III)I"⟩, prog_14_method_77_code, 6, (some .int))
def mX12_pass : MI := (⟨RX12, "pass", "(III)I"⟩, prog_14_method_78_code, 6, (some .int))
def mX12_trainedOf : MI := (⟨RX12, "trainedOf", "(III)I"⟩, prog_14_method_79_code, 7, (some .int))
def mX12_trained : MI := (⟨RX12, "trained", "(III)I"⟩, prog_14_method_80_code, 4, (some .int))
def mX12_gains : MI := (⟨RX12, "gains", "(III)I"⟩, prog_14_method_81_code, 4, (some .int))
def mX12_trainedWorth : MI := (⟨RX12, "trainedWorth", "(III)I"⟩, prog_14_method_82_code, 4, (some .int))
def mX12_pays : MI := (⟨RX12, "pays", "(II)I"⟩, prog_14_method_83_code, 7, (some .int))
def mX12_byAt : MI := (⟨RX12, "byAt", "(II)I"⟩, prog_14_method_84_code, 2, (some .int))
def mX12_spreadBy : MI := (⟨RX12, "spreadBy", "(IIII)I"⟩, prog_14_method_85_code, 5, (some .int))
def mX12_laysSpread : MI := (⟨RX12, "laysSpread", "(I)V"⟩, prog_14_method_86_code, 6, none)
def mX12_spread : MI := (⟨RX12, "spread", "(III)I"⟩, prog_14_method_87_code, 7, (some .int))
def mX12_hours : MI := (⟨RX12, "hours", "(II)I"⟩, prog_14_method_88_code, 4, (some .int))
def mX12_betterOf : MI := (⟨RX12, "betterOf", "(II)I"⟩, prog_14_method_89_code, 7, (some .int))
def mX12_kth : MI := (⟨RX12, "kth", "(II)I"⟩, prog_14_method_90_code, 4, (some .int))
def mX12_behind : MI := (⟨RX12, "behind", "(I)I"⟩, prog_14_method_91_code, 7, (some .int))
def mX12_hour : MI := (⟨RX12, "hour", "(III)I"⟩, prog_14_method_92_code, 4, (some .int))
def mX12_squadOf : MI := (⟨RX12, "squadOf", "(III)I"⟩, prog_14_method_93_code, 4, (some .int))
def mX12_laysSquad : MI := (⟨RX12, "laysSquad", "()V"⟩, prog_14_method_94_code, 5, none)
def mX12_squad : MI := (⟨RX12, "squad", "(II)I"⟩, prog_14_method_95_code, 6, (some .int))
def mX12_close : MI := (⟨RX12, "close", "()I"⟩, prog_14_method_96_code, 6, (some .int))
def mX12_team : MI := (⟨RX12, "team", "(I)I"⟩, prog_14_method_97_code, 4, (some .int))
def mX12_kinds : MI := (⟨RX12, "kinds", "(III)I"⟩, prog_14_method_98_code, 6, (some .int))
def mX12_lent : MI := (⟨RX12, "lent", "(III)I"⟩, prog_14_method_99_code, 5, (some .int))
def mX12_even : MI := (⟨RX12, "even", "(I)I"⟩, prog_14_method_100_code, 5, (some .int))
def mX12_draw : MI := (⟨RX12, "draw", "(I)I"⟩, prog_14_method_101_code, 2, (some .int))
def mX12_meets : MI := (⟨RX12, "meets", "(J)V"⟩, prog_14_method_102_code, 7, none)
def mX12_meet : MI := (⟨RX12, "meet", "(II)I"⟩, prog_14_method_103_code, 3, (some .int))
def mX12_met : MI := (⟨RX12, "met", "(II)I"⟩, prog_14_method_104_code, 3, (some .int))
def mX12_odds : MI := (⟨RX12, "odds", "(III)I"⟩, prog_14_method_105_code, 6, (some .int))
def mX12_keeps : MI := (⟨RX12, "keeps", "()V"⟩, prog_14_method_106_code, 3, none)
def mX12_undo : MI := (⟨RX12, "undo", "()I"⟩, prog_14_method_107_code, 3, (some .int))
def mX12_sets : MI := (⟨RX12, "sets", "(III)I"⟩, prog_14_method_108_code, 6, (some .int))
def mX12_athlete : MI := (⟨RX12, "athlete", "()I"⟩, prog_14_method_109_code, 2, (some .int))
def mX12_gain : MI := (⟨RX12, "gain", "(IIII)I"⟩, prog_14_method_110_code, 7, (some .int))
def mX12_trains : MI := (⟨RX12, "trains", "(III)I"⟩, prog_14_method_111_code, 5, (some .int))
def mX12_tie : MI := (⟨RX12, "tie", "(I)I"⟩, prog_14_method_112_code, 3, (some .int))
def mX12_says : MI := (⟨RX12, "says", "(I)V"⟩, prog_14_method_113_code, 2, none)
def mX12_saysNumber : MI := (⟨RX12, "saysNumber", "(I)V"⟩, prog_14_method_114_code, 3, none)
def mX12_tell : MI := (⟨RX12, "tell", "()I"⟩, prog_14_method_115_code, 3, (some .int))
def mX12_card : MI := (⟨RX12, "card", "(I)I"⟩, prog_14_method_116_code, 4, (some .int))
def mX12_octet : MI := (⟨RX12, "octet", "(I)I"⟩, prog_14_method_117_code, 2, (some .int))
def mJ9_abs_0f7a4 : MI := (⟨RJ9, "abs", "(I)I"⟩, prog_17_method_59_code, 1, (some .int))
def mJ9_max_7cf53 : MI := (⟨RJ9, "max", "(II)I"⟩, prog_17_method_65_code, 2, (some .int))
def mJ9_min_7cf53 : MI := (⟨RJ9, "min", "(II)I"⟩, prog_17_method_69_code, 2, (some .int))
def mJ9_min_f86c9 : MI := (⟨RJ9, "min", "(JJ)J"⟩, prog_17_method_70_code, 4, (some .long))
def mJ0_length_8abf5 : MI := (⟨RJ0, "length", "()I"⟩, prog_18_method_54_code, 1, (some .int))
def mJ0_charAt_5068e : MI := (⟨RJ0, "charAt", "(I)C"⟩, prog_18_method_56_code, 2, (some .char))
def mJ0_coder_7d493 : MI := (⟨RJ0, "coder", "()B"⟩, prog_18_method_152_code, 1, (some .byte))
def mJ0_isLatin1_aae02 : MI := (⟨RJ0, "isLatin1", "()Z"⟩, prog_18_method_154_code, 1, (some .boolean))
def mJ0_checkIndex_df160 : MI := (⟨RJ0, "checkIndex", "(II)V"⟩, prog_18_method_155_code, 2, none)
def mJ1_charAt_3b067 : MI := (⟨RJ1, "charAt", "([BI)C"⟩, prog_19_method_2_code, 2, (some .char))
def mJ2_getChar_3b067 : MI := (⟨RJ2, "getChar", "([BI)C"⟩, prog_20_method_5_code, 2, (some .char))
def mJ2_length_9d52b : MI := (⟨RJ2, "length", "([B)I"⟩, prog_20_method_6_code, 1, (some .int))
def mJ2_charAt_3b067 : MI := (⟨RJ2, "charAt", "([BI)C"⟩, prog_20_method_83_code, 2, (some .char))
def mJ2_checkIndex_2214a : MI := (⟨RJ2, "checkIndex", "(I[B)V"⟩, prog_20_method_91_code, 2, none)
def mJ3_checkIndex_8e157 : MI := (⟨RJ3, "checkIndex", "(IILjava/util/function/BiFunction;)I"⟩, prog_22_method_11_code, 3, (some .int))
end
section
/-- what stands at a place of a list -/
def nth {α : Type} : List α → Nat → Option α
  | [], _ => none
  | x :: _, 0 => some x
  | _ :: t, n + 1 => nth t n
theorem nth_mem {α : Type} {x : α} : ∀ {l : List α} {n : Nat}, nth l n = some x → x ∈ l
  | [], _, h => by cases h
  | y :: t, 0, h => by cases h; exact List.mem_cons_self
  | y :: t, n + 1, h => List.mem_cons_of_mem _ (nth_mem (l := t) h)
abbrev IT : Type := List (Nat × Instr × Nat)
theorem dc_of {cc : ByteArray} {t : IT} (h : ∀ q ∈ t, decode cc q.1 = .ok q.2) (k : Nat) {pc n : Nat} {i : Instr} (hk : nth t k = some (pc, i, n)) : decode cc pc = .ok (i, n) := h (pc, i, n) (nth_mem hk)
def tX0_init : IT := [(0, .aload_n 0, 1), (1, .invokespecial 3, 3), (4, .aload_n 0, 1), (5, .iconst 4, 1), (6, .newarray .int, 2), (8, .putfield 9, 3), (11, .aload_n 0, 1), (12, .iconst 5, 1), (13, .newarray .int, 2), (15, .putfield 15, 3), (18, .aload_n 0, 1), (19, .sipush 1200, 3), (22, .newarray .int, 2), (24, .putfield 18, 3), (27, .aload_n 0, 1), (28, .bipush 64, 2), (30, .newarray .int, 2), (32, .putfield 21, 3), (35, .return_, 1)]
theorem dX0_init : ∀ q ∈ tX0_init, decode mX0_init.2.1 q.1 = .ok q.2 := by decide +kernel
def tX0_clear : IT := [(0, .aload_n 0, 1), (1, .iconst 0, 1), (2, .putfield 24, 3), (5, .aload_n 0, 1), (6, .iconst 0, 1), (7, .putfield 28, 3), (10, .aload_n 0, 1), (11, .iconst 0, 1), (12, .putfield 31, 3), (15, .return_, 1)]
theorem dX0_clear : ∀ q ∈ tX0_clear, decode mX0_clear.2.1 q.1 = .ok q.2 := by decide +kernel
def tX0_emit : IT := [(0, .aload_n 0, 1), (1, .getfield 28, 3), (4, .aload_n 0, 1), (5, .getfield 18, 3), (8, .arraylength, 1), (9, .if_icmp .ge 28, 3), (12, .aload_n 0, 1), (13, .getfield 18, 3), (16, .aload_n 0, 1), (17, .getfield 28, 3), (20, .iload_n 1, 1), (21, .ldc 34, 2), (23, .imul, 1), (24, .iload_n 2, 1), (25, .iadd, 1), (26, .iastore, 1), (27, .aload_n 0, 1), (28, .dup, 1), (29, .getfield 28, 3), (32, .iconst 1, 1), (33, .iadd, 1), (34, .putfield 28, 3), (37, .return_, 1)]
theorem dX0_emit : ∀ q ∈ tX0_emit, decode mX0_emit.2.1 q.1 = .ok q.2 := by decide +kernel
def tX0_finish : IT := [(0, .aload_n 0, 1), (1, .getfield 24, 3), (4, .iconst 4, 1), (5, .if_icmp .ge 46, 3), (8, .aload_n 0, 1), (9, .getfield 9, 3), (12, .aload_n 0, 1), (13, .getfield 24, 3), (16, .iload_n 1, 1), (17, .iastore, 1), (18, .aload_n 0, 1), (19, .dup, 1), (20, .getfield 31, 3), (23, .iload_n 1, 1), (24, .iadd, 1), (25, .putfield 31, 3), (28, .aload_n 0, 1), (29, .dup, 1), (30, .getfield 24, 3), (33, .iconst 1, 1), (34, .iadd, 1), (35, .putfield 24, 3), (38, .aload_n 0, 1), (39, .getfield 15, 3), (42, .aload_n 0, 1), (43, .getfield 24, 3), (46, .aload_n 0, 1), (47, .getfield 28, 3), (50, .iastore, 1), (51, .return_, 1)]
theorem dX0_finish : ∀ q ∈ tX0_finish, decode mX0_finish.2.1 q.1 = .ok q.2 := by decide +kernel
def tX0_isSo : IT := [(0, .aload_n 0, 1), (1, .iconst 0, 1), (2, .putfield 35, 3), (5, .aload_n 0, 1), (6, .getfield 15, 3), (9, .iload_n 1, 1), (10, .iaload, 1), (11, .istore_n 3, 1), (12, .iload_n 3, 1), (13, .aload_n 0, 1), (14, .getfield 15, 3), (17, .iload_n 1, 1), (18, .iconst 1, 1), (19, .iadd, 1), (20, .iaload, 1), (21, .if_icmp .ge 89, 3), (24, .aload_n 0, 1), (25, .getfield 18, 3), (28, .iload_n 3, 1), (29, .iaload, 1), (30, .ldc 34, 2), (32, .idiv, 1), (33, .istore 4, 2), (35, .iload 4, 2), (37, .iconst 5, 1), (38, .if_icmp .gt 25, 3), (41, .aload_n 0, 1), (42, .aload_n 2, 1), (43, .iload 4, 2), (45, .aload_n 0, 1), (46, .getfield 18, 3), (49, .iload_n 3, 1), (50, .iaload, 1), (51, .ldc 34, 2), (53, .irem, 1), (54, .invokevirtual 38, 3), (57, .invokevirtual 44, 3), (60, .goto 44, 3), (63, .iload 4, 2), (65, .bipush 13, 2), (67, .if_icmp .ne 16, 3), (70, .aload_n 0, 1), (71, .iconst 1, 1), (72, .aload_n 0, 1), (73, .invokevirtual 48, 3), (76, .isub, 1), (77, .invokevirtual 44, 3), (80, .goto 24, 3), (83, .aload_n 0, 1), (84, .invokevirtual 48, 3), (87, .istore 5, 2), (89, .aload_n 0, 1), (90, .iload 4, 2), (92, .aload_n 0, 1), (93, .invokevirtual 48, 3), (96, .iload 5, 2), (98, .invokestatic 52, 3), (101, .invokevirtual 44, 3), (104, .iinc 3 1, 3), (107, .goto (-95), 3), (110, .aload_n 0, 1), (111, .invokevirtual 48, 3), (114, .iconst 1, 1), (115, .if_icmp .ne 7, 3), (118, .iconst 1, 1), (119, .goto 4, 3), (122, .iconst 0, 1), (123, .ireturn, 1)]
theorem dX0_isSo : ∀ q ∈ tX0_isSo, decode mX0_isSo.2.1 q.1 = .ok q.2 := by decide +kernel
def tX0_push : IT := [(0, .aload_n 0, 1), (1, .getfield 35, 3), (4, .aload_n 0, 1), (5, .getfield 21, 3), (8, .arraylength, 1), (9, .if_icmp .ge 23, 3), (12, .aload_n 0, 1), (13, .getfield 21, 3), (16, .aload_n 0, 1), (17, .getfield 35, 3), (20, .iload_n 1, 1), (21, .iastore, 1), (22, .aload_n 0, 1), (23, .dup, 1), (24, .getfield 35, 3), (27, .iconst 1, 1), (28, .iadd, 1), (29, .putfield 35, 3), (32, .return_, 1)]
theorem dX0_push : ∀ q ∈ tX0_push, decode mX0_push.2.1 q.1 = .ok q.2 := by decide +kernel
def tX0_pop : IT := [(0, .aload_n 0, 1), (1, .getfield 35, 3), (4, .iconst 1, 1), (5, .if_icmp .ge 5, 3), (8, .iconst 0, 1), (9, .ireturn, 1), (10, .aload_n 0, 1), (11, .dup, 1), (12, .getfield 35, 3), (15, .iconst 1, 1), (16, .isub, 1), (17, .putfield 35, 3), (20, .aload_n 0, 1), (21, .getfield 21, 3), (24, .aload_n 0, 1), (25, .getfield 35, 3), (28, .iaload, 1), (29, .ireturn, 1)]
theorem dX0_pop : ∀ q ∈ tX0_pop, decode mX0_pop.2.1 q.1 = .ok q.2 := by decide +kernel
def tX0_join : IT := [(0, .iload_n 0, 1), (1, .tableswitch 84 6 11 #[39, 43, 47, 58, 69, 80], 39), (40, .iload_n 1, 1), (41, .iload_n 2, 1), (42, .iadd, 1), (43, .ireturn, 1), (44, .iload_n 1, 1), (45, .iload_n 2, 1), (46, .isub, 1), (47, .ireturn, 1), (48, .iload_n 1, 1), (49, .iload_n 2, 1), (50, .if_icmp .ge 7, 3), (53, .iconst 1, 1), (54, .goto 4, 3), (57, .iconst 0, 1), (58, .ireturn, 1), (59, .iload_n 1, 1), (60, .iload_n 2, 1), (61, .if_icmp .ne 7, 3), (64, .iconst 1, 1), (65, .goto 4, 3), (68, .iconst 0, 1), (69, .ireturn, 1), (70, .iload_n 1, 1), (71, .iload_n 2, 1), (72, .if_icmp .le 7, 3), (75, .iconst 1, 1), (76, .goto 4, 3), (79, .iconst 0, 1), (80, .ireturn, 1), (81, .iload_n 1, 1), (82, .iload_n 2, 1), (83, .iand, 1), (84, .ireturn, 1), (85, .iload_n 1, 1), (86, .iload_n 2, 1), (87, .ior, 1), (88, .ireturn, 1)]
theorem dX0_join : ∀ q ∈ tX0_join, decode mX0_join.2.1 q.1 = .ok q.2 := by decide +kernel
def tX0_pay : IT := [(0, .aload_n 1, 1), (1, .iconst 0, 1), (2, .putfield 56, 3), (5, .iconst 0, 1), (6, .istore_n 2, 1), (7, .iload_n 2, 1), (8, .aload_n 0, 1), (9, .getfield 24, 3), (12, .if_icmp .ge 37, 3), (15, .aload_n 1, 1), (16, .dup, 1), (17, .getfield 56, 3), (20, .aload_n 0, 1), (21, .iload_n 2, 1), (22, .aload_n 1, 1), (23, .invokevirtual 59, 3), (26, .ifCond .eq 12, 3), (29, .aload_n 0, 1), (30, .getfield 9, 3), (33, .iload_n 2, 1), (34, .iaload, 1), (35, .goto 4, 3), (38, .iconst 0, 1), (39, .iadd, 1), (40, .putfield 56, 3), (43, .iinc 2 1, 3), (46, .goto (-39), 3), (49, .return_, 1)]
theorem dX0_pay : ∀ q ∈ tX0_pay, decode mX0_pay.2.1 q.1 = .ok q.2 := by decide +kernel
def tX0_comesTo : IT := [(0, .aload_n 1, 1), (1, .getfield 63, 3), (4, .iload_n 2, 1), (5, .if_icmp .lt 5, 3), (8, .iconst 1, 1), (9, .ireturn, 1), (10, .aload_n 1, 1), (11, .getfield 63, 3), (14, .aload_n 0, 1), (15, .getfield 31, 3), (18, .iadd, 1), (19, .iload_n 2, 1), (20, .if_icmp .ge 5, 3), (23, .iconst 0, 1), (24, .ireturn, 1), (25, .aload_n 0, 1), (26, .aload_n 1, 1), (27, .invokevirtual 66, 3), (30, .aload_n 1, 1), (31, .getfield 63, 3), (34, .aload_n 1, 1), (35, .getfield 56, 3), (38, .iadd, 1), (39, .iload_n 2, 1), (40, .if_icmp .lt 7, 3), (43, .iconst 1, 1), (44, .goto 4, 3), (47, .iconst 0, 1), (48, .ireturn, 1)]
theorem dX0_comesTo : ∀ q ∈ tX0_comesTo, decode mX0_comesTo.2.1 q.1 = .ok q.2 := by decide +kernel
def tX1_init : IT := [(0, .aload_n 0, 1), (1, .invokespecial 3, 3), (4, .aload_n 0, 1), (5, .bipush 10, 2), (7, .anewarray 9, 3), (10, .putfield 11, 3), (13, .aload_n 0, 1), (14, .bipush 80, 2), (16, .newarray .int, 2), (18, .putfield 17, 3), (21, .aload_n 0, 1), (22, .bipush 80, 2), (24, .newarray .int, 2), (26, .putfield 21, 3), (29, .aload_n 0, 1), (30, .bipush 80, 2), (32, .newarray .int, 2), (34, .putfield 24, 3), (37, .aload_n 0, 1), (38, .new 27, 3), (41, .dup, 1), (42, .invokespecial 29, 3), (45, .putfield 30, 3), (48, .iconst 0, 1), (49, .istore_n 1, 1), (50, .iload_n 1, 1), (51, .bipush 10, 2), (53, .if_icmp .ge 22, 3), (56, .aload_n 0, 1), (57, .getfield 11, 3), (60, .iload_n 1, 1), (61, .new 9, 3), (64, .dup, 1), (65, .invokespecial 34, 3), (68, .aastore, 1), (69, .iinc 1 1, 3), (72, .goto (-22), 3), (75, .return_, 1)]
theorem dX1_init : ∀ q ∈ tX1_init, decode mX1_init.2.1 q.1 = .ok q.2 := by decide +kernel
def tX1_clear : IT := [(0, .aload_n 0, 1), (1, .iconst 0, 1), (2, .putfield 35, 3), (5, .aload_n 0, 1), (6, .iconst 0, 1), (7, .putfield 39, 3), (10, .aload_n 0, 1), (11, .iconst 0, 1), (12, .putfield 42, 3), (15, .aload_n 0, 1), (16, .getfield 30, 3), (19, .invokevirtual 45, 3), (22, .return_, 1)]
theorem dX1_clear : ∀ q ∈ tX1_clear, decode mX1_clear.2.1 q.1 = .ok q.2 := by decide +kernel
def tX1_addAthlete : IT := [(0, .aload_n 0, 1), (1, .getfield 39, 3), (4, .istore_n 1, 1), (5, .iconst 0, 1), (6, .istore_n 2, 1), (7, .iload_n 2, 1), (8, .bipush 10, 2), (10, .if_icmp .ge 36, 3), (13, .iload_n 1, 1), (14, .iload_n 2, 1), (15, .invokestatic 48, 3), (18, .istore_n 3, 1), (19, .aload_n 0, 1), (20, .getfield 17, 3), (23, .iload_n 3, 1), (24, .iconst (-1), 1), (25, .iastore, 1), (26, .aload_n 0, 1), (27, .getfield 21, 3), (30, .iload_n 3, 1), (31, .iconst (-1), 1), (32, .iastore, 1), (33, .aload_n 0, 1), (34, .getfield 24, 3), (37, .iload_n 3, 1), (38, .iconst (-1), 1), (39, .iastore, 1), (40, .iinc 2 1, 3), (43, .goto (-36), 3), (46, .aload_n 0, 1), (47, .dup, 1), (48, .getfield 39, 3), (51, .iconst 1, 1), (52, .iadd, 1), (53, .putfield 39, 3), (56, .iload_n 1, 1), (57, .ireturn, 1)]
theorem dX1_addAthlete : ∀ q ∈ tX1_addAthlete, decode mX1_addAthlete.2.1 q.1 = .ok q.2 := by decide +kernel
def tX1_markOf : IT := [(0, .aload_n 0, 1), (1, .getfield 17, 3), (4, .iload_n 1, 1), (5, .iload_n 2, 1), (6, .invokestatic 48, 3), (9, .iaload, 1), (10, .ireturn, 1)]
theorem dX1_markOf : ∀ q ∈ tX1_markOf, decode mX1_markOf.2.1 q.1 = .ok q.2 := by decide +kernel
def tX1_valueOf : IT := [(0, .aload_n 0, 1), (1, .getfield 11, 3), (4, .iload_n 2, 1), (5, .aaload, 1), (6, .aload_n 0, 1), (7, .iload_n 1, 1), (8, .iload_n 2, 1), (9, .invokevirtual 52, 3), (12, .invokevirtual 55, 3), (15, .ireturn, 1)]
theorem dX1_valueOf : ∀ q ∈ tX1_valueOf, decode mX1_valueOf.2.1 q.1 = .ok q.2 := by decide +kernel
def tX1_markAfter : IT := [(0, .iload_n 1, 1), (1, .iload_n 2, 1), (2, .invokestatic 48, 3), (5, .istore 4, 2), (7, .aload_n 0, 1), (8, .getfield 17, 3), (11, .iload 4, 2), (13, .iaload, 1), (14, .istore 5, 2), (16, .iload_n 3, 1), (17, .aload_n 0, 1), (18, .getfield 24, 3), (21, .iload 4, 2), (23, .iaload, 1), (24, .iadd, 1), (25, .istore 6, 2), (27, .iload 5, 2), (29, .iconst (-1), 1), (30, .if_icmp .eq 20, 3), (33, .aload_n 0, 1), (34, .getfield 21, 3), (37, .iload 4, 2), (39, .iaload, 1), (40, .iconst (-1), 1), (41, .if_icmp .eq 9, 3), (44, .iload 6, 2), (46, .iconst 1, 1), (47, .if_icmp .ge 6, 3), (50, .iload 5, 2), (52, .ireturn, 1), (53, .aload_n 0, 1), (54, .getfield 11, 3), (57, .iload_n 2, 1), (58, .aaload, 1), (59, .iload 5, 2), (61, .aload_n 0, 1), (62, .getfield 21, 3), (65, .iload 4, 2), (67, .iaload, 1), (68, .iload_n 3, 1), (69, .imul, 1), (70, .iload 6, 2), (72, .idiv, 1), (73, .invokevirtual 59, 3), (76, .ireturn, 1)]
theorem dX1_markAfter : ∀ q ∈ tX1_markAfter, decode mX1_markAfter.2.1 q.1 = .ok q.2 := by decide +kernel
def tX1_valueAfter : IT := [(0, .aload_n 0, 1), (1, .getfield 11, 3), (4, .iload_n 2, 1), (5, .aaload, 1), (6, .aload_n 0, 1), (7, .iload_n 1, 1), (8, .iload_n 2, 1), (9, .iload_n 3, 1), (10, .invokevirtual 62, 3), (13, .invokevirtual 55, 3), (16, .ireturn, 1)]
theorem dX1_valueAfter : ∀ q ∈ tX1_valueAfter, decode mX1_valueAfter.2.1 q.1 = .ok q.2 := by decide +kernel
def tX1_athleteByMark : IT := [(0, .iconst 0, 1), (1, .istore_n 3, 1), (2, .iload_n 3, 1), (3, .aload_n 0, 1), (4, .getfield 39, 3), (7, .if_icmp .ge 31, 3), (10, .aload_n 0, 1), (11, .iload_n 3, 1), (12, .iload_n 1, 1), (13, .invokevirtual 52, 3), (16, .iconst (-1), 1), (17, .if_icmp .eq 15, 3), (20, .aload_n 0, 1), (21, .iload_n 3, 1), (22, .iload_n 1, 1), (23, .invokevirtual 66, 3), (26, .iload_n 2, 1), (27, .if_icmp .ne 5, 3), (30, .iload_n 3, 1), (31, .ireturn, 1), (32, .iinc 3 1, 3), (35, .goto (-33), 3), (38, .iconst (-1), 1), (39, .ireturn, 1)]
theorem dX1_athleteByMark : ∀ q ∈ tX1_athleteByMark, decode mX1_athleteByMark.2.1 q.1 = .ok q.2 := by decide +kernel
def tX1_betterThan : IT := [(0, .aload_n 0, 1), (1, .iload_n 1, 1), (2, .iload_n 2, 1), (3, .invokevirtual 52, 3), (6, .istore_n 3, 1), (7, .iconst 0, 1), (8, .istore 4, 2), (10, .iconst 0, 1), (11, .istore 5, 2), (13, .iload 5, 2), (15, .aload_n 0, 1), (16, .getfield 39, 3), (19, .if_icmp .ge 54, 3), (22, .aload_n 0, 1), (23, .iload 5, 2), (25, .iload_n 2, 1), (26, .invokevirtual 52, 3), (29, .istore 6, 2), (31, .iload 6, 2), (33, .iconst (-1), 1), (34, .if_icmp .eq 33, 3), (37, .aload_n 0, 1), (38, .getfield 11, 3), (41, .iload_n 2, 1), (42, .aaload, 1), (43, .iload 6, 2), (45, .iload_n 3, 1), (46, .invokevirtual 69, 3), (49, .ifCond .ne 15, 3), (52, .iload 6, 2), (54, .iload_n 3, 1), (55, .if_icmp .ne 12, 3), (58, .iload 5, 2), (60, .iload_n 1, 1), (61, .if_icmp .ge 6, 3), (64, .iinc 4 1, 3), (67, .iinc 5 1, 3), (70, .goto (-57), 3), (73, .iload 4, 2), (75, .ireturn, 1)]
theorem dX1_betterThan : ∀ q ∈ tX1_betterThan, decode mX1_betterThan.2.1 q.1 = .ok q.2 := by decide +kernel
def tX2_init : IT := [(0, .aload_n 0, 1), (1, .invokespecial 3, 3), (4, .aload_n 0, 1), (5, .bipush 10, 2), (7, .newarray .int, 2), (9, .putfield 9, 3), (12, .aload_n 0, 1), (13, .bipush 10, 2), (15, .newarray .int, 2), (17, .putfield 15, 3), (20, .aload_n 0, 1), (21, .bipush 10, 2), (23, .newarray .int, 2), (25, .putfield 18, 3), (28, .aload_n 0, 1), (29, .bipush 10, 2), (31, .newarray .int, 2), (33, .putfield 21, 3), (36, .return_, 1)]
theorem dX2_init : ∀ q ∈ tX2_init, decode mX2_init.2.1 q.1 = .ok q.2 := by decide +kernel
def tX2_clear : IT := [(0, .aload_n 0, 1), (1, .iconst 0, 1), (2, .putfield 24, 3), (5, .return_, 1)]
theorem dX2_clear : ∀ q ∈ tX2_clear, decode mX2_clear.2.1 q.1 = .ok q.2 := by decide +kernel
def tX2_note : IT := [(0, .aload_n 0, 1), (1, .getfield 24, 3), (4, .bipush 10, 2), (6, .if_icmp .lt 7, 3), (9, .aload_n 0, 1), (10, .invokevirtual 28, 3), (13, .aload_n 0, 1), (14, .getfield 9, 3), (17, .aload_n 0, 1), (18, .getfield 24, 3), (21, .iload_n 1, 1), (22, .iastore, 1), (23, .aload_n 0, 1), (24, .getfield 15, 3), (27, .aload_n 0, 1), (28, .getfield 24, 3), (31, .iload_n 2, 1), (32, .iastore, 1), (33, .aload_n 0, 1), (34, .getfield 18, 3), (37, .aload_n 0, 1), (38, .getfield 24, 3), (41, .iload_n 3, 1), (42, .iastore, 1), (43, .aload_n 0, 1), (44, .getfield 21, 3), (47, .aload_n 0, 1), (48, .getfield 24, 3), (51, .iload 4, 2), (53, .iastore, 1), (54, .aload_n 0, 1), (55, .dup, 1), (56, .getfield 24, 3), (59, .iconst 1, 1), (60, .iadd, 1), (61, .putfield 24, 3), (64, .return_, 1)]
theorem dX2_note : ∀ q ∈ tX2_note, decode mX2_note.2.1 q.1 = .ok q.2 := by decide +kernel
def tX2_forgetOldest : IT := [(0, .aload_n 0, 1), (1, .bipush 9, 2), (3, .putfield 24, 3), (6, .aload_n 0, 1), (7, .getfield 9, 3), (10, .iconst 1, 1), (11, .aload_n 0, 1), (12, .getfield 9, 3), (15, .iconst 0, 1), (16, .aload_n 0, 1), (17, .getfield 24, 3), (20, .invokestatic 31, 3), (23, .aload_n 0, 1), (24, .getfield 15, 3), (27, .iconst 1, 1), (28, .aload_n 0, 1), (29, .getfield 15, 3), (32, .iconst 0, 1), (33, .aload_n 0, 1), (34, .getfield 24, 3), (37, .invokestatic 31, 3), (40, .aload_n 0, 1), (41, .getfield 18, 3), (44, .iconst 1, 1), (45, .aload_n 0, 1), (46, .getfield 18, 3), (49, .iconst 0, 1), (50, .aload_n 0, 1), (51, .getfield 24, 3), (54, .invokestatic 31, 3), (57, .aload_n 0, 1), (58, .getfield 21, 3), (61, .iconst 1, 1), (62, .aload_n 0, 1), (63, .getfield 21, 3), (66, .iconst 0, 1), (67, .aload_n 0, 1), (68, .getfield 24, 3), (71, .invokestatic 31, 3), (74, .return_, 1)]
theorem dX2_forgetOldest : ∀ q ∈ tX2_forgetOldest, decode mX2_forgetOldest.2.1 q.1 = .ok q.2 := by decide +kernel
def tX2_takeBack : IT := [(0, .aload_n 0, 1), (1, .getfield 24, 3), (4, .iconst 1, 1), (5, .if_icmp .ge 5, 3), (8, .iconst 0, 1), (9, .ireturn, 1), (10, .aload_n 0, 1), (11, .dup, 1), (12, .getfield 24, 3), (15, .iconst 1, 1), (16, .isub, 1), (17, .putfield 24, 3), (20, .aload_n 0, 1), (21, .getfield 15, 3), (24, .aload_n 0, 1), (25, .getfield 24, 3), (28, .iaload, 1), (29, .istore_n 2, 1), (30, .aload_n 0, 1), (31, .getfield 9, 3), (34, .aload_n 0, 1), (35, .getfield 24, 3), (38, .iaload, 1), (39, .ifCond .ne 21, 3), (42, .aload_n 1, 1), (43, .getfield 37, 3), (46, .iload_n 2, 1), (47, .aload_n 0, 1), (48, .getfield 18, 3), (51, .aload_n 0, 1), (52, .getfield 24, 3), (55, .iaload, 1), (56, .iastore, 1), (57, .goto 95, 3), (60, .aload_n 0, 1), (61, .getfield 9, 3), (64, .aload_n 0, 1), (65, .getfield 24, 3), (68, .iaload, 1), (69, .iconst 2, 1), (70, .if_icmp .ne 36, 3), (73, .aload_n 1, 1), (74, .getfield 42, 3), (77, .iload_n 2, 1), (78, .aload_n 0, 1), (79, .getfield 18, 3), (82, .aload_n 0, 1), (83, .getfield 24, 3), (86, .iaload, 1), (87, .iastore, 1), (88, .aload_n 1, 1), (89, .getfield 45, 3), (92, .iload_n 2, 1), (93, .aload_n 0, 1), (94, .getfield 21, 3), (97, .aload_n 0, 1), (98, .getfield 24, 3), (101, .iaload, 1), (102, .iastore, 1), (103, .goto 49, 3), (106, .aload_n 0, 1), (107, .getfield 9, 3), (110, .aload_n 0, 1), (111, .getfield 24, 3), (114, .iaload, 1), (115, .iconst 3, 1), (116, .if_icmp .ne 19, 3), (119, .aload_n 1, 1), (120, .aload_n 0, 1), (121, .getfield 18, 3), (124, .aload_n 0, 1), (125, .getfield 24, 3), (128, .iaload, 1), (129, .putfield 48, 3), (132, .goto 20, 3), (135, .aload_n 1, 1), (136, .getfield 51, 3), (139, .ifCond .le 13, 3), (142, .aload_n 1, 1), (143, .dup, 1), (144, .getfield 51, 3), (147, .iconst 1, 1), (148, .isub, 1), (149, .putfield 51, 3), (152, .iconst 1, 1), (153, .ireturn, 1)]
theorem dX2_takeBack : ∀ q ∈ tX2_takeBack, decode mX2_takeBack.2.1 q.1 = .ok q.2 := by decide +kernel
def tX3_init : IT := [(0, .aload_n 0, 1), (1, .invokespecial 1, 3), (4, .aload_n 0, 1), (5, .bipush 64, 2), (7, .newarray .byte, 2), (9, .putfield 7, 3), (12, .return_, 1)]
theorem dX3_init : ∀ q ∈ tX3_init, decode mX3_init.2.1 q.1 = .ok q.2 := by decide +kernel
def tX3_clear : IT := [(0, .aload_n 0, 1), (1, .iconst 0, 1), (2, .putfield 13, 3), (5, .return_, 1)]
theorem dX3_clear : ∀ q ∈ tX3_clear, decode mX3_clear.2.1 q.1 = .ok q.2 := by decide +kernel
def tX3_put : IT := [(0, .aload_n 0, 1), (1, .getfield 13, 3), (4, .aload_n 0, 1), (5, .getfield 7, 3), (8, .arraylength, 1), (9, .if_icmp .ge 24, 3), (12, .aload_n 0, 1), (13, .getfield 7, 3), (16, .aload_n 0, 1), (17, .getfield 13, 3), (20, .iload_n 1, 1), (21, .i2b, 1), (22, .bastore, 1), (23, .aload_n 0, 1), (24, .dup, 1), (25, .getfield 13, 3), (28, .iconst 1, 1), (29, .iadd, 1), (30, .putfield 13, 3), (33, .return_, 1)]
theorem dX3_put : ∀ q ∈ tX3_put, decode mX3_put.2.1 q.1 = .ok q.2 := by decide +kernel
def tX3_putNumber : IT := [(0, .iconst 1, 1), (1, .istore_n 2, 1), (2, .iconst 1, 1), (3, .istore_n 3, 1), (4, .iload_n 3, 1), (5, .bipush 9, 2), (7, .if_icmp .ge 22, 3), (10, .iload_n 1, 1), (11, .iload_n 2, 1), (12, .idiv, 1), (13, .bipush 10, 2), (15, .if_icmp .lt 14, 3), (18, .iload_n 2, 1), (19, .bipush 10, 2), (21, .imul, 1), (22, .istore_n 2, 1), (23, .iinc 3 1, 3), (26, .goto (-22), 3), (29, .iload_n 2, 1), (30, .ifCond .le 24, 3), (33, .aload_n 0, 1), (34, .bipush 48, 2), (36, .iload_n 1, 1), (37, .iload_n 2, 1), (38, .idiv, 1), (39, .bipush 10, 2), (41, .irem, 1), (42, .iadd, 1), (43, .invokevirtual 17, 3), (46, .iload_n 2, 1), (47, .bipush 10, 2), (49, .idiv, 1), (50, .istore_n 2, 1), (51, .goto (-22), 3), (54, .return_, 1)]
theorem dX3_putNumber : ∀ q ∈ tX3_putNumber, decode mX3_putNumber.2.1 q.1 = .ok q.2 := by decide +kernel
def tX4_init : IT := [(0, .aload_n 0, 1), (1, .invokespecial 3, 3), (4, .aload_n 0, 1), (5, .iconst (-1), 1), (6, .putfield 9, 3), (9, .aload_n 0, 1), (10, .new 15, 3), (13, .dup, 1), (14, .invokespecial 17, 3), (17, .putfield 18, 3), (20, .aload_n 0, 1), (21, .new 22, 3), (24, .dup, 1), (25, .invokespecial 24, 3), (28, .putfield 25, 3), (31, .return_, 1)]
theorem dX4_init : ∀ q ∈ tX4_init, decode mX4_init.2.1 q.1 = .ok q.2 := by decide +kernel
def tX4_readAll : IT := [(0, .aload_n 0, 1), (1, .getfield 18, 3), (4, .aload_n 1, 1), (5, .iload_n 2, 1), (6, .invokevirtual 29, 3), (9, .aload_n 0, 1), (10, .getfield 25, 3), (13, .invokevirtual 33, 3), (16, .aload_n 0, 1), (17, .iconst 0, 1), (18, .putfield 36, 3), (21, .aload_n 0, 1), (22, .iconst 0, 1), (23, .putfield 39, 3), (26, .aload_n 0, 1), (27, .iconst 0, 1), (28, .putfield 43, 3), (31, .aload_n 0, 1), (32, .iconst (-1), 1), (33, .putfield 9, 3), (36, .iconst 0, 1), (37, .istore_n 3, 1), (38, .iload_n 3, 1), (39, .sipush 1200, 3), (42, .if_icmp .ge 39, 3), (45, .aload_n 0, 1), (46, .getstatic 46, 3), (49, .invokevirtual 52, 3), (52, .ifCond .ne 29, 3), (55, .aload_n 0, 1), (56, .invokevirtual 56, 3), (59, .ifCond .eq 13, 3), (62, .aload_n 0, 1), (63, .getstatic 60, 3), (66, .invokevirtual 63, 3), (69, .ifCond .ne 6, 3), (72, .bipush (-4), 2), (74, .ireturn, 1), (75, .iinc 3 1, 3), (78, .goto (-40), 3), (81, .iload_n 3, 1), (82, .ireturn, 1)]
theorem dX4_readAll : ∀ q ∈ tX4_readAll, decode mX4_readAll.2.1 q.1 = .ok q.2 := by decide +kernel
def tX4_exchange : IT := [(0, .aload_n 0, 1), (1, .getfield 25, 3), (4, .astore_n 2, 1), (5, .aload_n 0, 1), (6, .aload_n 1, 1), (7, .putfield 25, 3), (10, .aload_n 2, 1), (11, .areturn, 1)]
theorem dX4_exchange : ∀ q ∈ tX4_exchange, decode mX4_exchange.2.1 q.1 = .ok q.2 := by decide +kernel
def tX4_sees : IT := [(0, .aload_n 0, 1), (1, .getfield 18, 3), (4, .getfield 66, 3), (7, .aload_n 0, 1), (8, .getfield 36, 3), (11, .aaload, 1), (12, .aload_n 1, 1), (13, .if_acmp .ne 7, 3), (16, .iconst 1, 1), (17, .goto 4, 3), (20, .iconst 0, 1), (21, .ireturn, 1)]
theorem dX4_sees : ∀ q ∈ tX4_sees, decode mX4_sees.2.1 q.1 = .ok q.2 := by decide +kernel
def tX4_advance : IT := [(0, .aload_n 0, 1), (1, .getfield 36, 3), (4, .aload_n 0, 1), (5, .getfield 18, 3), (8, .getfield 70, 3), (11, .if_icmp .ge 13, 3), (14, .aload_n 0, 1), (15, .dup, 1), (16, .getfield 36, 3), (19, .iconst 1, 1), (20, .iadd, 1), (21, .putfield 36, 3), (24, .iconst 1, 1), (25, .ireturn, 1)]
theorem dX4_advance : ∀ q ∈ tX4_advance, decode mX4_advance.2.1 q.1 = .ok q.2 := by decide +kernel
def tX4_refuse : IT := [(0, .aload_n 0, 1), (1, .iload_n 1, 1), (2, .putfield 43, 3), (5, .aload_n 0, 1), (6, .aload_n 0, 1), (7, .getfield 18, 3), (10, .getfield 73, 3), (13, .aload_n 0, 1), (14, .getfield 36, 3), (17, .iaload, 1), (18, .putfield 9, 3), (21, .iconst 0, 1), (22, .ireturn, 1)]
theorem dX4_refuse : ∀ q ∈ tX4_refuse, decode mX4_refuse.2.1 q.1 = .ok q.2 := by decide +kernel
def tX4_take : IT := [(0, .aload_n 0, 1), (1, .aload_n 1, 1), (2, .invokevirtual 52, 3), (5, .ifCond .eq 10, 3), (8, .aload_n 0, 1), (9, .invokevirtual 77, 3), (12, .goto 8, 3), (15, .aload_n 0, 1), (16, .iconst 1, 1), (17, .invokevirtual 80, 3), (20, .ireturn, 1)]
theorem dX4_take : ∀ q ∈ tX4_take, decode mX4_take.2.1 q.1 = .ok q.2 := by decide +kernel
def tX4_takeNumber : IT := [(0, .aload_n 0, 1), (1, .getstatic 84, 3), (4, .invokevirtual 52, 3), (7, .ifCond .ne 9, 3), (10, .aload_n 0, 1), (11, .iconst 1, 1), (12, .invokevirtual 80, 3), (15, .ireturn, 1), (16, .aload_n 0, 1), (17, .aload_n 0, 1), (18, .getfield 18, 3), (21, .getfield 87, 3), (24, .aload_n 0, 1), (25, .getfield 36, 3), (28, .iaload, 1), (29, .putfield 90, 3), (32, .aload_n 0, 1), (33, .getfield 90, 3), (36, .iload_n 1, 1), (37, .iload_n 2, 1), (38, .invokestatic 93, 3), (41, .ifCond .eq 10, 3), (44, .aload_n 0, 1), (45, .invokevirtual 77, 3), (48, .goto 8, 3), (51, .aload_n 0, 1), (52, .iconst 2, 1), (53, .invokevirtual 80, 3), (56, .ireturn, 1)]
theorem dX4_takeNumber : ∀ q ∈ tX4_takeNumber, decode mX4_takeNumber.2.1 q.1 = .ok q.2 := by decide +kernel
def tX4_takeCell : IT := [(0, .aload_n 0, 1), (1, .iconst 0, 1), (2, .aload_n 0, 1), (3, .getfield 25, 3), (6, .getfield 97, 3), (9, .iconst 1, 1), (10, .isub, 1), (11, .invokevirtual 100, 3), (14, .ifCond .ne 5, 3), (17, .iconst 0, 1), (18, .ireturn, 1), (19, .aload_n 0, 1), (20, .getfield 90, 3), (23, .istore_n 1, 1), (24, .aload_n 0, 1), (25, .iconst 0, 1), (26, .aload_n 0, 1), (27, .getfield 25, 3), (30, .getfield 104, 3), (33, .iconst 1, 1), (34, .isub, 1), (35, .invokevirtual 100, 3), (38, .ifCond .ne 5, 3), (41, .iconst 0, 1), (42, .ireturn, 1), (43, .aload_n 0, 1), (44, .iload_n 1, 1), (45, .aload_n 0, 1), (46, .getfield 90, 3), (49, .invokestatic 107, 3), (52, .putfield 111, 3), (55, .iconst 1, 1), (56, .ireturn, 1)]
theorem dX4_takeCell : ∀ q ∈ tX4_takeCell, decode mX4_takeCell.2.1 q.1 = .ok q.2 := by decide +kernel
def tX4_readLine : IT := [(0, .aload_n 0, 1), (1, .getstatic 114, 3), (4, .invokevirtual 52, 3), (7, .ifCond .eq 28, 3), (10, .aload_n 0, 1), (11, .getfield 25, 3), (14, .getfield 104, 3), (17, .bipush 10, 2), (19, .if_icmp .ge 10, 3), (22, .aload_n 0, 1), (23, .invokevirtual 117, 3), (26, .goto 8, 3), (29, .aload_n 0, 1), (30, .iconst 4, 1), (31, .invokevirtual 80, 3), (34, .ireturn, 1), (35, .aload_n 0, 1), (36, .getstatic 120, 3), (39, .invokevirtual 52, 3), (42, .ifCond .eq 23, 3), (45, .aload_n 0, 1), (46, .getfield 39, 3), (49, .ifCond .eq 11, 3), (52, .aload_n 0, 1), (53, .iconst 3, 1), (54, .invokevirtual 80, 3), (57, .goto 7, 3), (60, .aload_n 0, 1), (61, .invokevirtual 123, 3), (64, .ireturn, 1), (65, .aload_n 0, 1), (66, .getstatic 126, 3), (69, .invokevirtual 52, 3), (72, .ifCond .eq 30, 3), (75, .aload_n 0, 1), (76, .getfield 25, 3), (79, .getfield 129, 3), (82, .getfield 133, 3), (85, .iconst 4, 1), (86, .if_icmp .ge 10, 3), (89, .aload_n 0, 1), (90, .invokevirtual 136, 3), (93, .goto 8, 3), (96, .aload_n 0, 1), (97, .iconst 4, 1), (98, .invokevirtual 80, 3), (101, .ireturn, 1), (102, .aload_n 0, 1), (103, .getstatic 139, 3), (106, .invokevirtual 52, 3), (109, .ifCond .eq 28, 3), (112, .aload_n 0, 1), (113, .getfield 25, 3), (116, .getfield 97, 3), (119, .bipush 8, 2), (121, .if_icmp .ge 10, 3), (124, .aload_n 0, 1), (125, .invokevirtual 142, 3), (128, .goto 8, 3), (131, .aload_n 0, 1), (132, .iconst 4, 1), (133, .invokevirtual 80, 3), (136, .ireturn, 1), (137, .aload_n 0, 1), (138, .getstatic 145, 3), (141, .invokevirtual 52, 3), (144, .ifCond .eq 8, 3), (147, .aload_n 0, 1), (148, .invokevirtual 148, 3), (151, .ireturn, 1), (152, .aload_n 0, 1), (153, .getstatic 151, 3), (156, .invokevirtual 52, 3), (159, .ifCond .eq 10, 3), (162, .aload_n 0, 1), (163, .invokevirtual 154, 3), (166, .goto 8, 3), (169, .aload_n 0, 1), (170, .iconst 1, 1), (171, .invokevirtual 80, 3), (174, .ireturn, 1)]
theorem dX4_readLine : ∀ q ∈ tX4_readLine, decode mX4_readLine.2.1 q.1 = .ok q.2 := by decide +kernel
def tX4_readEvent : IT := [(0, .aload_n 0, 1), (1, .invokevirtual 77, 3), (4, .pop, 1), (5, .aload_n 0, 1), (6, .getfield 25, 3), (9, .getfield 157, 3), (12, .aload_n 0, 1), (13, .getfield 25, 3), (16, .getfield 104, 3), (19, .aaload, 1), (20, .astore_n 1, 1), (21, .aload_n 1, 1), (22, .aload_n 0, 1), (23, .getstatic 161, 3), (26, .invokevirtual 52, 3), (29, .putfield 164, 3), (32, .aload_n 0, 1), (33, .aload_n 1, 1), (34, .getfield 164, 3), (37, .ifCond .eq 9, 3), (40, .getstatic 161, 3), (43, .goto 6, 3), (46, .getstatic 169, 3), (49, .invokevirtual 63, 3), (52, .ifCond .eq 23, 3), (55, .aload_n 0, 1), (56, .getstatic 172, 3), (59, .invokevirtual 63, 3), (62, .ifCond .eq 13, 3), (65, .aload_n 0, 1), (66, .iconst 0, 1), (67, .ldc 175, 2), (69, .invokevirtual 100, 3), (72, .ifCond .ne 5, 3), (75, .iconst 0, 1), (76, .ireturn, 1), (77, .aload_n 1, 1), (78, .aload_n 0, 1), (79, .getfield 90, 3), (82, .putfield 176, 3), (85, .aload_n 0, 1), (86, .getstatic 179, 3), (89, .invokevirtual 52, 3), (92, .ifCond .eq 11, 3), (95, .aload_n 0, 1), (96, .aload_n 1, 1), (97, .invokevirtual 182, 3), (100, .goto 8, 3), (103, .aload_n 0, 1), (104, .aload_n 1, 1), (105, .invokevirtual 186, 3), (108, .istore_n 2, 1), (109, .iload_n 2, 1), (110, .ifCond .ne 5, 3), (113, .iconst 0, 1), (114, .ireturn, 1), (115, .aload_n 1, 1), (116, .iconst 0, 1), (117, .putfield 189, 3), (120, .aload_n 0, 1), (121, .getstatic 192, 3), (124, .invokevirtual 52, 3), (127, .ifCond .eq 29, 3), (130, .aload_n 0, 1), (131, .invokevirtual 77, 3), (134, .pop, 1), (135, .aload_n 0, 1), (136, .iconst 0, 1), (137, .sipush 999, 3), (140, .invokevirtual 100, 3), (143, .ifCond .ne 5, 3), (146, .iconst 0, 1), (147, .ireturn, 1), (148, .aload_n 1, 1), (149, .aload_n 0, 1), (150, .getfield 90, 3), (153, .putfield 189, 3), (156, .aload_n 0, 1), (157, .getfield 25, 3), (160, .dup, 1), (161, .getfield 104, 3), (164, .iconst 1, 1), (165, .iadd, 1), (166, .putfield 104, 3), (169, .iconst 1, 1), (170, .ireturn, 1)]
theorem dX4_readEvent : ∀ q ∈ tX4_readEvent, decode mX4_readEvent.2.1 q.1 = .ok q.2 := by decide +kernel
def tX4_readFormula : IT := [(0, .aload_n 0, 1), (1, .getstatic 195, 3), (4, .invokevirtual 52, 3), (7, .ifCond .eq 11, 3), (10, .aload_n 1, 1), (11, .iconst 0, 1), (12, .putfield 198, 3), (15, .goto 45, 3), (18, .aload_n 0, 1), (19, .getstatic 201, 3), (22, .invokevirtual 52, 3), (25, .ifCond .eq 11, 3), (28, .aload_n 1, 1), (29, .iconst 1, 1), (30, .putfield 198, 3), (33, .goto 27, 3), (36, .aload_n 0, 1), (37, .getstatic 204, 3), (40, .invokevirtual 52, 3), (43, .ifCond .eq 11, 3), (46, .aload_n 1, 1), (47, .iconst 2, 1), (48, .putfield 198, 3), (51, .goto 9, 3), (54, .aload_n 0, 1), (55, .iconst 1, 1), (56, .invokevirtual 80, 3), (59, .ireturn, 1), (60, .aload_n 0, 1), (61, .invokevirtual 77, 3), (64, .pop, 1), (65, .aload_n 0, 1), (66, .iconst 1, 1), (67, .sipush 9999, 3), (70, .invokevirtual 100, 3), (73, .ifCond .ne 5, 3), (76, .iconst 0, 1), (77, .ireturn, 1), (78, .aload_n 1, 1), (79, .aload_n 0, 1), (80, .getfield 90, 3), (83, .putfield 207, 3), (86, .aload_n 0, 1), (87, .getstatic 210, 3), (90, .invokevirtual 63, 3), (93, .ifCond .eq 13, 3), (96, .aload_n 0, 1), (97, .iconst 1, 1), (98, .ldc 175, 2), (100, .invokevirtual 100, 3), (103, .ifCond .ne 5, 3), (106, .iconst 0, 1), (107, .ireturn, 1), (108, .aload_n 1, 1), (109, .aload_n 0, 1), (110, .getfield 90, 3), (113, .putfield 213, 3), (116, .iconst 1, 1), (117, .ireturn, 1)]
theorem dX4_readFormula : ∀ q ∈ tX4_readFormula, decode mX4_readFormula.2.1 q.1 = .ok q.2 := by decide +kernel
def tX4_readTable : IT := [(0, .aload_n 1, 1), (1, .iconst 3, 1), (2, .putfield 198, 3), (5, .aload_n 1, 1), (6, .iconst 0, 1), (7, .putfield 216, 3), (10, .iconst 1, 1), (11, .istore_n 2, 1), (12, .iconst 0, 1), (13, .istore_n 3, 1), (14, .iload_n 3, 1), (15, .bipush 8, 2), (17, .if_icmp .gt 36, 3), (20, .iload_n 2, 1), (21, .ifCond .eq 32, 3), (24, .aload_n 0, 1), (25, .invokevirtual 77, 3), (28, .pop, 1), (29, .aload_n 0, 1), (30, .aload_n 1, 1), (31, .invokevirtual 219, 3), (34, .ifCond .ne 5, 3), (37, .iconst 0, 1), (38, .ireturn, 1), (39, .aload_n 0, 1), (40, .getstatic 222, 3), (43, .invokevirtual 52, 3), (46, .istore_n 2, 1), (47, .iinc 3 1, 3), (50, .goto (-36), 3), (53, .iconst 1, 1), (54, .ireturn, 1)]
theorem dX4_readTable : ∀ q ∈ tX4_readTable, decode mX4_readTable.2.1 q.1 = .ok q.2 := by decide +kernel
def tX4_readTwo : IT := [(0, .aload_n 1, 1), (1, .getfield 216, 3), (4, .istore_n 2, 1), (5, .iload_n 2, 1), (6, .ifCond .le 16, 3), (9, .aload_n 1, 1), (10, .getfield 225, 3), (13, .iload_n 2, 1), (14, .iconst 1, 1), (15, .isub, 1), (16, .iaload, 1), (17, .iconst 1, 1), (18, .iadd, 1), (19, .goto 4, 3), (22, .iconst 0, 1), (23, .istore_n 3, 1), (24, .iload_n 2, 1), (25, .ifCond .le 14, 3), (28, .aload_n 1, 1), (29, .getfield 228, 3), (32, .iload_n 2, 1), (33, .iconst 1, 1), (34, .isub, 1), (35, .iaload, 1), (36, .goto 4, 3), (39, .iconst 0, 1), (40, .istore 4, 2), (42, .aload_n 0, 1), (43, .iload_n 3, 1), (44, .ldc 175, 2), (46, .invokevirtual 100, 3), (49, .ifCond .ne 5, 3), (52, .iconst 0, 1), (53, .ireturn, 1), (54, .iload_n 2, 1), (55, .bipush 8, 2), (57, .if_icmp .lt 19, 3), (60, .aload_n 0, 1), (61, .dup, 1), (62, .getfield 36, 3), (65, .iconst 1, 1), (66, .isub, 1), (67, .putfield 36, 3), (70, .aload_n 0, 1), (71, .iconst 4, 1), (72, .invokevirtual 80, 3), (75, .ireturn, 1), (76, .aload_n 1, 1), (77, .getfield 225, 3), (80, .iload_n 2, 1), (81, .aload_n 0, 1), (82, .getfield 90, 3), (85, .iastore, 1), (86, .aload_n 0, 1), (87, .getstatic 231, 3), (90, .invokevirtual 63, 3), (93, .ifCond .eq 15, 3), (96, .aload_n 0, 1), (97, .iload 4, 2), (99, .sipush 2000, 3), (102, .invokevirtual 100, 3), (105, .ifCond .ne 5, 3), (108, .iconst 0, 1), (109, .ireturn, 1), (110, .aload_n 1, 1), (111, .getfield 228, 3), (114, .iload_n 2, 1), (115, .aload_n 0, 1), (116, .getfield 90, 3), (119, .iastore, 1), (120, .aload_n 1, 1), (121, .dup, 1), (122, .getfield 216, 3), (125, .iconst 1, 1), (126, .iadd, 1), (127, .putfield 216, 3), (130, .iconst 1, 1), (131, .ireturn, 1)]
theorem dX4_readTwo : ∀ q ∈ tX4_readTwo, decode mX4_readTwo.2.1 q.1 = .ok q.2 := by decide +kernel
def tX4_readTie : IT := [(0, .aload_n 0, 1), (1, .invokevirtual 77, 3), (4, .pop, 1), (5, .aload_n 0, 1), (6, .iconst 1, 1), (7, .putfield 39, 3), (10, .aload_n 0, 1), (11, .getstatic 234, 3), (14, .invokevirtual 52, 3), (17, .ifCond .eq 14, 3), (20, .aload_n 0, 1), (21, .getfield 25, 3), (24, .iconst 0, 1), (25, .putfield 237, 3), (28, .goto 51, 3), (31, .aload_n 0, 1), (32, .getstatic 240, 3), (35, .invokevirtual 52, 3), (38, .ifCond .eq 14, 3), (41, .aload_n 0, 1), (42, .getfield 25, 3), (45, .iconst 1, 1), (46, .putfield 237, 3), (49, .goto 30, 3), (52, .aload_n 0, 1), (53, .getstatic 243, 3), (56, .invokevirtual 52, 3), (59, .ifCond .eq 14, 3), (62, .aload_n 0, 1), (63, .getfield 25, 3), (66, .iconst 2, 1), (67, .putfield 237, 3), (70, .goto 9, 3), (73, .aload_n 0, 1), (74, .iconst 1, 1), (75, .invokevirtual 80, 3), (78, .ireturn, 1), (79, .aload_n 0, 1), (80, .invokevirtual 77, 3), (83, .ireturn, 1)]
theorem dX4_readTie : ∀ q ∈ tX4_readTie, decode mX4_readTie.2.1 q.1 = .ok q.2 := by decide +kernel
def tX4_readAthlete : IT := [(0, .aload_n 0, 1), (1, .getfield 25, 3), (4, .invokevirtual 246, 3), (7, .pop, 1), (8, .aload_n 0, 1), (9, .invokevirtual 77, 3), (12, .ireturn, 1)]
theorem dX4_readAthlete : ∀ q ∈ tX4_readAthlete, decode mX4_readAthlete.2.1 q.1 = .ok q.2 := by decide +kernel
def tX4_readMark : IT := [(0, .aload_n 0, 1), (1, .invokevirtual 77, 3), (4, .pop, 1), (5, .aload_n 0, 1), (6, .invokevirtual 250, 3), (9, .ifCond .eq 13, 3), (12, .aload_n 0, 1), (13, .iconst 0, 1), (14, .ldc 175, 2), (16, .invokevirtual 100, 3), (19, .ifCond .ne 5, 3), (22, .iconst 0, 1), (23, .ireturn, 1), (24, .aload_n 0, 1), (25, .getfield 25, 3), (28, .getfield 253, 3), (31, .aload_n 0, 1), (32, .getfield 111, 3), (35, .aload_n 0, 1), (36, .getfield 90, 3), (39, .iastore, 1), (40, .iconst 1, 1), (41, .ireturn, 1)]
theorem dX4_readMark : ∀ q ∈ tX4_readMark, decode mX4_readMark.2.1 q.1 = .ok q.2 := by decide +kernel
def tX4_readGain : IT := [(0, .aload_n 0, 1), (1, .invokevirtual 77, 3), (4, .pop, 1), (5, .aload_n 0, 1), (6, .invokevirtual 250, 3), (9, .ifCond .eq 13, 3), (12, .aload_n 0, 1), (13, .iconst 0, 1), (14, .ldc 175, 2), (16, .invokevirtual 100, 3), (19, .ifCond .ne 5, 3), (22, .iconst 0, 1), (23, .ireturn, 1), (24, .aload_n 0, 1), (25, .getfield 25, 3), (28, .getfield 256, 3), (31, .aload_n 0, 1), (32, .getfield 111, 3), (35, .aload_n 0, 1), (36, .getfield 90, 3), (39, .iastore, 1), (40, .aload_n 0, 1), (41, .getstatic 259, 3), (44, .invokevirtual 63, 3), (47, .ifCond .eq 14, 3), (50, .aload_n 0, 1), (51, .iconst 1, 1), (52, .sipush 999, 3), (55, .invokevirtual 100, 3), (58, .ifCond .ne 5, 3), (61, .iconst 0, 1), (62, .ireturn, 1), (63, .aload_n 0, 1), (64, .getfield 25, 3), (67, .getfield 262, 3), (70, .aload_n 0, 1), (71, .getfield 111, 3), (74, .aload_n 0, 1), (75, .getfield 90, 3), (78, .iastore, 1), (79, .iconst 1, 1), (80, .ireturn, 1)]
theorem dX4_readGain : ∀ q ∈ tX4_readGain, decode mX4_readGain.2.1 q.1 = .ok q.2 := by decide +kernel
def tX4_readBonus : IT := [(0, .aload_n 0, 1), (1, .invokevirtual 77, 3), (4, .pop, 1), (5, .aload_n 0, 1), (6, .iconst 1, 1), (7, .sipush 500, 3), (10, .invokevirtual 100, 3), (13, .ifCond .ne 5, 3), (16, .iconst 0, 1), (17, .ireturn, 1), (18, .aload_n 0, 1), (19, .getfield 90, 3), (22, .istore_n 1, 1), (23, .aload_n 0, 1), (24, .getstatic 265, 3), (27, .invokevirtual 63, 3), (30, .ifCond .eq 11, 3), (33, .aload_n 0, 1), (34, .iconst 0, 1), (35, .invokevirtual 268, 3), (38, .ifCond .ne 5, 3), (41, .iconst 0, 1), (42, .ireturn, 1), (43, .aload_n 0, 1), (44, .getfield 25, 3), (47, .getfield 129, 3), (50, .iload_n 1, 1), (51, .invokevirtual 271, 3), (54, .iconst 1, 1), (55, .ireturn, 1)]
theorem dX4_readBonus : ∀ q ∈ tX4_readBonus, decode mX4_readBonus.2.1 q.1 = .ok q.2 := by decide +kernel
def tX4_readTest : IT := [(0, .aload_n 0, 1), (1, .iload_n 1, 1), (2, .invokevirtual 275, 3), (5, .ifCond .ne 5, 3), (8, .iconst 0, 1), (9, .ireturn, 1), (10, .iconst 0, 1), (11, .istore_n 2, 1), (12, .iload_n 2, 1), (13, .sipush 1200, 3), (16, .if_icmp .ge 47, 3), (19, .aload_n 0, 1), (20, .getstatic 278, 3), (23, .invokevirtual 52, 3), (26, .ifCond .eq 37, 3), (29, .aload_n 0, 1), (30, .invokevirtual 77, 3), (33, .pop, 1), (34, .aload_n 0, 1), (35, .iload_n 1, 1), (36, .invokevirtual 275, 3), (39, .ifCond .ne 5, 3), (42, .iconst 0, 1), (43, .ireturn, 1), (44, .aload_n 0, 1), (45, .getfield 25, 3), (48, .getfield 129, 3), (51, .bipush 12, 2), (53, .iconst 0, 1), (54, .invokevirtual 281, 3), (57, .iinc 2 1, 3), (60, .goto (-48), 3), (63, .iconst 1, 1), (64, .ireturn, 1)]
theorem dX4_readTest : ∀ q ∈ tX4_readTest, decode mX4_readTest.2.1 q.1 = .ok q.2 := by decide +kernel
def tX4_readSide : IT := [(0, .aload_n 0, 1), (1, .iload_n 1, 1), (2, .invokevirtual 285, 3), (5, .ifCond .ne 5, 3), (8, .iconst 0, 1), (9, .ireturn, 1), (10, .iconst 0, 1), (11, .istore_n 2, 1), (12, .iload_n 2, 1), (13, .sipush 1200, 3), (16, .if_icmp .ge 47, 3), (19, .aload_n 0, 1), (20, .getstatic 288, 3), (23, .invokevirtual 52, 3), (26, .ifCond .eq 37, 3), (29, .aload_n 0, 1), (30, .invokevirtual 77, 3), (33, .pop, 1), (34, .aload_n 0, 1), (35, .iload_n 1, 1), (36, .invokevirtual 285, 3), (39, .ifCond .ne 5, 3), (42, .iconst 0, 1), (43, .ireturn, 1), (44, .aload_n 0, 1), (45, .getfield 25, 3), (48, .getfield 129, 3), (51, .bipush 11, 2), (53, .iconst 0, 1), (54, .invokevirtual 281, 3), (57, .iinc 2 1, 3), (60, .goto (-48), 3), (63, .iconst 1, 1), (64, .ireturn, 1)]
theorem dX4_readSide : ∀ q ∈ tX4_readSide, decode mX4_readSide.2.1 q.1 = .ok q.2 := by decide +kernel
def tX4_readFact : IT := [(0, .aload_n 0, 1), (1, .getstatic 291, 3), (4, .invokevirtual 52, 3), (7, .ifCond .eq 9, 3), (10, .aload_n 0, 1), (11, .iload_n 1, 1), (12, .invokevirtual 294, 3), (15, .ireturn, 1), (16, .aload_n 0, 1), (17, .getstatic 297, 3), (20, .invokevirtual 52, 3), (23, .ifCond .eq 9, 3), (26, .aload_n 0, 1), (27, .iload_n 1, 1), (28, .invokevirtual 300, 3), (31, .ireturn, 1), (32, .aload_n 0, 1), (33, .iload_n 1, 1), (34, .invokevirtual 303, 3), (37, .ifCond .ne 5, 3), (40, .iconst 0, 1), (41, .ireturn, 1), (42, .bipush 10, 2), (44, .istore_n 2, 1), (45, .aload_n 0, 1), (46, .getstatic 306, 3), (49, .invokevirtual 52, 3), (52, .ifCond .eq 9, 3), (55, .bipush 8, 2), (57, .istore_n 2, 1), (58, .goto 35, 3), (61, .aload_n 0, 1), (62, .getstatic 309, 3), (65, .invokevirtual 52, 3), (68, .ifCond .eq 9, 3), (71, .bipush 9, 2), (73, .istore_n 2, 1), (74, .goto 19, 3), (77, .aload_n 0, 1), (78, .getstatic 312, 3), (81, .invokevirtual 52, 3), (84, .ifCond .ne 9, 3), (87, .aload_n 0, 1), (88, .iconst 1, 1), (89, .invokevirtual 80, 3), (92, .ireturn, 1), (93, .aload_n 0, 1), (94, .invokevirtual 77, 3), (97, .pop, 1), (98, .aload_n 0, 1), (99, .iload_n 1, 1), (100, .invokevirtual 303, 3), (103, .ifCond .ne 5, 3), (106, .iconst 0, 1), (107, .ireturn, 1), (108, .aload_n 0, 1), (109, .getfield 25, 3), (112, .getfield 129, 3), (115, .iload_n 2, 1), (116, .iconst 0, 1), (117, .invokevirtual 281, 3), (120, .iconst 1, 1), (121, .ireturn, 1)]
theorem dX4_readFact : ∀ q ∈ tX4_readFact, decode mX4_readFact.2.1 q.1 = .ok q.2 := by decide +kernel
def tX4_readNegation : IT := [(0, .iload_n 1, 1), (1, .bipush 6, 2), (3, .if_icmp .lt 9, 3), (6, .aload_n 0, 1), (7, .iconst 4, 1), (8, .invokevirtual 80, 3), (11, .ireturn, 1), (12, .aload_n 0, 1), (13, .invokevirtual 77, 3), (16, .pop, 1), (17, .aload_n 0, 1), (18, .iload_n 1, 1), (19, .iconst 1, 1), (20, .iadd, 1), (21, .invokevirtual 285, 3), (24, .ifCond .ne 5, 3), (27, .iconst 0, 1), (28, .ireturn, 1), (29, .aload_n 0, 1), (30, .getfield 25, 3), (33, .getfield 129, 3), (36, .bipush 13, 2), (38, .iconst 0, 1), (39, .invokevirtual 281, 3), (42, .iconst 1, 1), (43, .ireturn, 1)]
theorem dX4_readNegation : ∀ q ∈ tX4_readNegation, decode mX4_readNegation.2.1 q.1 = .ok q.2 := by decide +kernel
def tX4_readBracket : IT := [(0, .iload_n 1, 1), (1, .bipush 6, 2), (3, .if_icmp .lt 9, 3), (6, .aload_n 0, 1), (7, .iconst 4, 1), (8, .invokevirtual 80, 3), (11, .ireturn, 1), (12, .aload_n 0, 1), (13, .invokevirtual 77, 3), (16, .pop, 1), (17, .aload_n 0, 1), (18, .iload_n 1, 1), (19, .iconst 1, 1), (20, .iadd, 1), (21, .invokevirtual 268, 3), (24, .ifCond .eq 17, 3), (27, .aload_n 0, 1), (28, .getstatic 315, 3), (31, .invokevirtual 63, 3), (34, .ifCond .eq 7, 3), (37, .iconst 1, 1), (38, .goto 4, 3), (41, .iconst 0, 1), (42, .ireturn, 1)]
theorem dX4_readBracket : ∀ q ∈ tX4_readBracket, decode mX4_readBracket.2.1 q.1 = .ok q.2 := by decide +kernel
def tX4_readSum : IT := [(0, .aload_n 0, 1), (1, .iload_n 1, 1), (2, .invokevirtual 318, 3), (5, .ifCond .ne 5, 3), (8, .iconst 0, 1), (9, .ireturn, 1), (10, .iconst 0, 1), (11, .istore_n 2, 1), (12, .iload_n 2, 1), (13, .sipush 1200, 3), (16, .if_icmp .ge 74, 3), (19, .aload_n 0, 1), (20, .getstatic 321, 3), (23, .invokevirtual 52, 3), (26, .ifCond .ne 13, 3), (29, .aload_n 0, 1), (30, .getstatic 324, 3), (33, .invokevirtual 52, 3), (36, .ifCond .eq 54, 3), (39, .aload_n 0, 1), (40, .getstatic 321, 3), (43, .invokevirtual 52, 3), (46, .ifCond .eq 8, 3), (49, .bipush 6, 2), (51, .goto 5, 3), (54, .bipush 7, 2), (56, .istore_n 3, 1), (57, .aload_n 0, 1), (58, .invokevirtual 77, 3), (61, .pop, 1), (62, .aload_n 0, 1), (63, .iload_n 1, 1), (64, .invokevirtual 318, 3), (67, .ifCond .ne 5, 3), (70, .iconst 0, 1), (71, .ireturn, 1), (72, .aload_n 0, 1), (73, .getfield 25, 3), (76, .getfield 129, 3), (79, .iload_n 3, 1), (80, .iconst 0, 1), (81, .invokevirtual 281, 3), (84, .iinc 2 1, 3), (87, .goto (-75), 3), (90, .iconst 1, 1), (91, .ireturn, 1)]
theorem dX4_readSum : ∀ q ∈ tX4_readSum, decode mX4_readSum.2.1 q.1 = .ok q.2 := by decide +kernel
def tX4_readTerm : IT := [(0, .aload_n 0, 1), (1, .getstatic 327, 3), (4, .invokevirtual 52, 3), (7, .ifCond .eq 46, 3), (10, .iload_n 1, 1), (11, .bipush 6, 2), (13, .if_icmp .lt 9, 3), (16, .aload_n 0, 1), (17, .iconst 4, 1), (18, .invokevirtual 80, 3), (21, .ireturn, 1), (22, .aload_n 0, 1), (23, .invokevirtual 77, 3), (26, .pop, 1), (27, .aload_n 0, 1), (28, .iload_n 1, 1), (29, .iconst 1, 1), (30, .iadd, 1), (31, .invokevirtual 303, 3), (34, .ifCond .eq 17, 3), (37, .aload_n 0, 1), (38, .getstatic 330, 3), (41, .invokevirtual 63, 3), (44, .ifCond .eq 7, 3), (47, .iconst 1, 1), (48, .goto 4, 3), (51, .iconst 0, 1), (52, .ireturn, 1), (53, .aload_n 0, 1), (54, .getstatic 333, 3), (57, .invokevirtual 52, 3), (60, .ifCond .eq 44, 3), (63, .aload_n 0, 1), (64, .invokevirtual 77, 3), (67, .pop, 1), (68, .aload_n 0, 1), (69, .iconst 0, 1), (70, .aload_n 0, 1), (71, .getfield 25, 3), (74, .getfield 104, 3), (77, .iconst 1, 1), (78, .isub, 1), (79, .invokevirtual 100, 3), (82, .ifCond .ne 5, 3), (85, .iconst 0, 1), (86, .ireturn, 1), (87, .aload_n 0, 1), (88, .getfield 25, 3), (91, .getfield 129, 3), (94, .iconst 1, 1), (95, .aload_n 0, 1), (96, .getfield 90, 3), (99, .invokevirtual 281, 3), (102, .iconst 1, 1), (103, .ireturn, 1), (104, .aload_n 0, 1), (105, .getstatic 84, 3), (108, .invokevirtual 52, 3), (111, .ifCond .eq 32, 3), (114, .aload_n 0, 1), (115, .iconst 0, 1), (116, .ldc 175, 2), (118, .invokevirtual 100, 3), (121, .ifCond .ne 5, 3), (124, .iconst 0, 1), (125, .ireturn, 1), (126, .aload_n 0, 1), (127, .getfield 25, 3), (130, .getfield 129, 3), (133, .iconst 0, 1), (134, .aload_n 0, 1), (135, .getfield 90, 3), (138, .invokevirtual 281, 3), (141, .iconst 1, 1), (142, .ireturn, 1), (143, .aload_n 0, 1), (144, .invokevirtual 336, 3), (147, .ireturn, 1)]
theorem dX4_readTerm : ∀ q ∈ tX4_readTerm, decode mX4_readTerm.2.1 q.1 = .ok q.2 := by decide +kernel
def tX4_readWord : IT := [(0, .iconst 2, 1), (1, .istore_n 1, 1), (2, .aload_n 0, 1), (3, .getstatic 339, 3), (6, .invokevirtual 52, 3), (9, .ifCond .eq 8, 3), (12, .iconst 3, 1), (13, .istore_n 1, 1), (14, .goto 49, 3), (17, .aload_n 0, 1), (18, .getstatic 240, 3), (21, .invokevirtual 52, 3), (24, .ifCond .eq 8, 3), (27, .iconst 4, 1), (28, .istore_n 1, 1), (29, .goto 34, 3), (32, .aload_n 0, 1), (33, .getstatic 342, 3), (36, .invokevirtual 52, 3), (39, .ifCond .eq 8, 3), (42, .iconst 5, 1), (43, .istore_n 1, 1), (44, .goto 19, 3), (47, .aload_n 0, 1), (48, .getstatic 345, 3), (51, .invokevirtual 52, 3), (54, .ifCond .ne 9, 3), (57, .aload_n 0, 1), (58, .iconst 1, 1), (59, .invokevirtual 80, 3), (62, .ireturn, 1), (63, .aload_n 0, 1), (64, .getfield 25, 3), (67, .getfield 129, 3), (70, .iload_n 1, 1), (71, .iconst 0, 1), (72, .invokevirtual 281, 3), (75, .aload_n 0, 1), (76, .invokevirtual 77, 3), (79, .ireturn, 1)]
theorem dX4_readWord : ∀ q ∈ tX4_readWord, decode mX4_readWord.2.1 q.1 = .ok q.2 := by decide +kernel
def tX5_init : IT := [(0, .aload_n 0, 1), (1, .invokespecial 3, 3), (4, .aload_n 0, 1), (5, .bipush 10, 2), (7, .newarray .int, 2), (9, .putfield 9, 3), (12, .aload_n 0, 1), (13, .bipush 10, 2), (15, .newarray .boolean, 2), (17, .putfield 15, 3), (20, .return_, 1)]
theorem dX5_init : ∀ q ∈ tX5_init, decode mX5_init.2.1 q.1 = .ok q.2 := by decide +kernel
def tX5_read : IT := [(0, .aload_n 0, 1), (1, .aload_n 1, 1), (2, .getfield 19, 3), (5, .putfield 25, 3), (8, .iconst 0, 1), (9, .istore 4, 2), (11, .iload 4, 2), (13, .aload_n 0, 1), (14, .getfield 25, 3), (17, .if_icmp .ge 56, 3), (20, .aload_n 2, 1), (21, .iload_n 3, 1), (22, .iload 4, 2), (24, .invokestatic 26, 3), (27, .iaload, 1), (28, .istore 5, 2), (30, .aload_n 0, 1), (31, .getfield 9, 3), (34, .iload 4, 2), (36, .aload_n 1, 1), (37, .getfield 30, 3), (40, .iload 4, 2), (42, .aaload, 1), (43, .iload 5, 2), (45, .invokevirtual 34, 3), (48, .iastore, 1), (49, .aload_n 0, 1), (50, .getfield 15, 3), (53, .iload 4, 2), (55, .iload 5, 2), (57, .iconst (-1), 1), (58, .if_icmp .eq 7, 3), (61, .iconst 1, 1), (62, .goto 4, 3), (65, .iconst 0, 1), (66, .bastore, 1), (67, .iinc 4 1, 3), (70, .goto (-59), 3), (73, .aload_n 0, 1), (74, .invokevirtual 40, 3), (77, .return_, 1)]
theorem dX5_read : ∀ q ∈ tX5_read, decode mX5_read.2.1 q.1 = .ok q.2 := by decide +kernel
def tX5_put : IT := [(0, .aload_n 0, 1), (1, .getfield 9, 3), (4, .iload_n 1, 1), (5, .iload_n 2, 1), (6, .iastore, 1), (7, .aload_n 0, 1), (8, .getfield 15, 3), (11, .iload_n 1, 1), (12, .iconst 1, 1), (13, .bastore, 1), (14, .aload_n 0, 1), (15, .invokevirtual 40, 3), (18, .return_, 1)]
theorem dX5_put : ∀ q ∈ tX5_put, decode mX5_put.2.1 q.1 = .ok q.2 := by decide +kernel
def tX5_reckon : IT := [(0, .aload_n 0, 1), (1, .iconst 0, 1), (2, .putfield 43, 3), (5, .aload_n 0, 1), (6, .iconst 0, 1), (7, .putfield 46, 3), (10, .aload_n 0, 1), (11, .iconst 0, 1), (12, .putfield 49, 3), (15, .aload_n 0, 1), (16, .iconst 0, 1), (17, .putfield 52, 3), (20, .iconst 0, 1), (21, .istore_n 1, 1), (22, .iload_n 1, 1), (23, .aload_n 0, 1), (24, .getfield 25, 3), (27, .if_icmp .ge 93, 3), (30, .aload_n 0, 1), (31, .getfield 15, 3), (34, .iload_n 1, 1), (35, .baload, 1), (36, .ifCond .eq 78, 3), (39, .aload_n 0, 1), (40, .dup, 1), (41, .getfield 43, 3), (44, .aload_n 0, 1), (45, .getfield 9, 3), (48, .iload_n 1, 1), (49, .iaload, 1), (50, .iadd, 1), (51, .putfield 43, 3), (54, .aload_n 0, 1), (55, .aload_n 0, 1), (56, .getfield 49, 3), (59, .aload_n 0, 1), (60, .getfield 9, 3), (63, .iload_n 1, 1), (64, .iaload, 1), (65, .invokestatic 55, 3), (68, .putfield 49, 3), (71, .aload_n 0, 1), (72, .aload_n 0, 1), (73, .getfield 46, 3), (76, .ifCond .ne 12, 3), (79, .aload_n 0, 1), (80, .getfield 9, 3), (83, .iload_n 1, 1), (84, .iaload, 1), (85, .goto 16, 3), (88, .aload_n 0, 1), (89, .getfield 52, 3), (92, .aload_n 0, 1), (93, .getfield 9, 3), (96, .iload_n 1, 1), (97, .iaload, 1), (98, .invokestatic 60, 3), (101, .putfield 52, 3), (104, .aload_n 0, 1), (105, .dup, 1), (106, .getfield 46, 3), (109, .iconst 1, 1), (110, .iadd, 1), (111, .putfield 46, 3), (114, .iinc 1 1, 3), (117, .goto (-95), 3), (120, .return_, 1)]
theorem dX5_reckon : ∀ q ∈ tX5_reckon, decode mX5_reckon.2.1 q.1 = .ok q.2 := by decide +kernel
def tX5_word : IT := [(0, .iload_n 1, 1), (1, .tableswitch 74 1 5 #[35, 54, 59, 64, 69], 35), (36, .iload_n 2, 1), (37, .aload_n 0, 1), (38, .getfield 25, 3), (41, .if_icmp .ge 12, 3), (44, .aload_n 0, 1), (45, .getfield 9, 3), (48, .iload_n 2, 1), (49, .iaload, 1), (50, .goto 4, 3), (53, .iconst 0, 1), (54, .ireturn, 1), (55, .aload_n 0, 1), (56, .getfield 43, 3), (59, .ireturn, 1), (60, .aload_n 0, 1), (61, .getfield 46, 3), (64, .ireturn, 1), (65, .aload_n 0, 1), (66, .getfield 49, 3), (69, .ireturn, 1), (70, .aload_n 0, 1), (71, .getfield 52, 3), (74, .ireturn, 1), (75, .iload_n 2, 1), (76, .ireturn, 1)]
theorem dX5_word : ∀ q ∈ tX5_word, decode mX5_word.2.1 q.1 = .ok q.2 := by decide +kernel
def tX6_init : IT := [(0, .aload_n 0, 1), (1, .invokespecial 3, 3), (4, .aload_n 0, 1), (5, .bipush 10, 2), (7, .bipush 61, 2), (9, .multianewarray 9 2, 4), (13, .putfield 11, 3), (16, .aload_n 0, 1), (17, .bipush 10, 2), (19, .bipush 61, 2), (21, .multianewarray 9 2, 4), (25, .putfield 16, 3), (28, .return_, 1)]
theorem dX6_init : ∀ q ∈ tX6_init, decode mX6_init.2.1 q.1 = .ok q.2 := by decide +kernel
def tX6_settle : IT := [(0, .aload_n 0, 1), (1, .iload_n 1, 1), (2, .putfield 19, 3), (5, .aload_n 0, 1), (6, .getfield 19, 3), (9, .iconst 1, 1), (10, .isub, 1), (11, .istore_n 3, 1), (12, .iload_n 3, 1), (13, .ifCond .lt 62, 3), (16, .iconst 0, 1), (17, .istore 4, 2), (19, .iload 4, 2), (21, .iload_n 2, 1), (22, .if_icmp .gt 47, 3), (25, .aload_n 0, 1), (26, .getfield 16, 3), (29, .iload_n 3, 1), (30, .aaload, 1), (31, .iload 4, 2), (33, .iload_n 3, 1), (34, .aload_n 0, 1), (35, .getfield 19, 3), (38, .iconst 1, 1), (39, .isub, 1), (40, .if_icmp .ne 15, 3), (43, .aload_n 0, 1), (44, .getfield 11, 3), (47, .iload_n 3, 1), (48, .aaload, 1), (49, .iload 4, 2), (51, .iaload, 1), (52, .goto 10, 3), (55, .aload_n 0, 1), (56, .iload_n 3, 1), (57, .iload 4, 2), (59, .invokevirtual 23, 3), (62, .iastore, 1), (63, .iinc 4 1, 3), (66, .goto (-47), 3), (69, .iinc 3 (-1), 3), (72, .goto (-60), 3), (75, .return_, 1)]
theorem dX6_settle : ∀ q ∈ tX6_settle, decode mX6_settle.2.1 q.1 = .ok q.2 := by decide +kernel
def tX6_bestFrom : IT := [(0, .iconst 0, 1), (1, .istore_n 3, 1), (2, .iconst 0, 1), (3, .istore 4, 2), (5, .iload 4, 2), (7, .iload_n 2, 1), (8, .if_icmp .gt 37, 3), (11, .iload_n 3, 1), (12, .aload_n 0, 1), (13, .getfield 11, 3), (16, .iload_n 1, 1), (17, .aaload, 1), (18, .iload 4, 2), (20, .iaload, 1), (21, .aload_n 0, 1), (22, .getfield 16, 3), (25, .iload_n 1, 1), (26, .iconst 1, 1), (27, .iadd, 1), (28, .aaload, 1), (29, .iload_n 2, 1), (30, .iload 4, 2), (32, .isub, 1), (33, .iaload, 1), (34, .iadd, 1), (35, .invokestatic 27, 3), (38, .istore_n 3, 1), (39, .iinc 4 1, 3), (42, .goto (-37), 3), (45, .iload_n 3, 1), (46, .ireturn, 1)]
theorem dX6_bestFrom : ∀ q ∈ tX6_bestFrom, decode mX6_bestFrom.2.1 q.1 = .ok q.2 := by decide +kernel
def tX6_mostFor : IT := [(0, .aload_n 0, 1), (1, .getfield 19, 3), (4, .ifCond .ne 7, 3), (7, .iconst 0, 1), (8, .goto 11, 3), (11, .aload_n 0, 1), (12, .getfield 16, 3), (15, .iconst 0, 1), (16, .aaload, 1), (17, .iload_n 1, 1), (18, .iaload, 1), (19, .ireturn, 1)]
theorem dX6_mostFor : ∀ q ∈ tX6_mostFor, decode mX6_mostFor.2.1 q.1 = .ok q.2 := by decide +kernel
def tX6_shareOf : IT := [(0, .iload_n 2, 1), (1, .istore_n 3, 1), (2, .iconst 0, 1), (3, .istore 4, 2), (5, .iload 4, 2), (7, .iload_n 1, 1), (8, .if_icmp .ge 19, 3), (11, .iload_n 3, 1), (12, .aload_n 0, 1), (13, .iload 4, 2), (15, .iload_n 3, 1), (16, .invokevirtual 32, 3), (19, .isub, 1), (20, .istore_n 3, 1), (21, .iinc 4 1, 3), (24, .goto (-19), 3), (27, .aload_n 0, 1), (28, .iload_n 1, 1), (29, .iload_n 3, 1), (30, .invokevirtual 32, 3), (33, .ireturn, 1)]
theorem dX6_shareOf : ∀ q ∈ tX6_shareOf, decode mX6_shareOf.2.1 q.1 = .ok q.2 := by decide +kernel
def tX6_fewestFor : IT := [(0, .iload_n 1, 1), (1, .aload_n 0, 1), (2, .getfield 19, 3), (5, .iconst 1, 1), (6, .isub, 1), (7, .if_icmp .lt 5, 3), (10, .iload_n 2, 1), (11, .ireturn, 1), (12, .iconst 0, 1), (13, .istore_n 3, 1), (14, .iload_n 3, 1), (15, .iload_n 2, 1), (16, .if_icmp .gt 43, 3), (19, .aload_n 0, 1), (20, .getfield 11, 3), (23, .iload_n 1, 1), (24, .aaload, 1), (25, .iload_n 3, 1), (26, .iaload, 1), (27, .aload_n 0, 1), (28, .getfield 16, 3), (31, .iload_n 1, 1), (32, .iconst 1, 1), (33, .iadd, 1), (34, .aaload, 1), (35, .iload_n 2, 1), (36, .iload_n 3, 1), (37, .isub, 1), (38, .iaload, 1), (39, .iadd, 1), (40, .aload_n 0, 1), (41, .getfield 16, 3), (44, .iload_n 1, 1), (45, .aaload, 1), (46, .iload_n 2, 1), (47, .iaload, 1), (48, .if_icmp .ne 5, 3), (51, .iload_n 3, 1), (52, .ireturn, 1), (53, .iinc 3 1, 3), (56, .goto (-42), 3), (59, .iload_n 2, 1), (60, .ireturn, 1)]
theorem dX6_fewestFor : ∀ q ∈ tX6_fewestFor, decode mX6_fewestFor.2.1 q.1 = .ok q.2 := by decide +kernel
def tX7_values : IT := [(0, .getstatic 130, 3), (3, .invokevirtual 134, 3), (6, .checkcast 135, 3), (9, .areturn, 1)]
theorem dX7_values : ∀ q ∈ tX7_values, decode mX7_values.2.1 q.1 = .ok q.2 := by decide +kernel
def tX7_isSpelled : IT := [(0, .aload_n 0, 1), (1, .getfield 149, 3), (4, .invokevirtual 153, 3), (7, .iload_n 3, 1), (8, .iload_n 2, 1), (9, .isub, 1), (10, .if_icmp .eq 5, 3), (13, .iconst 0, 1), (14, .ireturn, 1), (15, .iload_n 2, 1), (16, .istore 4, 2), (18, .iload 4, 2), (20, .iload_n 3, 1), (21, .if_icmp .ge 29, 3), (24, .aload_n 0, 1), (25, .getfield 149, 3), (28, .iload 4, 2), (30, .iload_n 2, 1), (31, .isub, 1), (32, .invokevirtual 159, 3), (35, .aload_n 1, 1), (36, .iload 4, 2), (38, .baload, 1), (39, .if_icmp .eq 5, 3), (42, .iconst 0, 1), (43, .ireturn, 1), (44, .iinc 4 1, 3), (47, .goto (-29), 3), (50, .iconst 1, 1), (51, .ireturn, 1)]
theorem dX7_isSpelled : ∀ q ∈ tX7_isSpelled, decode mX7_isSpelled.2.1 q.1 = .ok q.2 := by decide +kernel
def tX8_init : IT := [(0, .aload_n 0, 1), (1, .invokespecial 3, 3), (4, .aload_n 0, 1), (5, .bipush 8, 2), (7, .anewarray 9, 3), (10, .putfield 11, 3), (13, .aload_n 0, 1), (14, .bipush 80, 2), (16, .newarray .int, 2), (18, .putfield 17, 3), (21, .iconst 0, 1), (22, .istore_n 1, 1), (23, .iload_n 1, 1), (24, .bipush 8, 2), (26, .if_icmp .ge 22, 3), (29, .aload_n 0, 1), (30, .getfield 11, 3), (33, .iload_n 1, 1), (34, .new 9, 3), (37, .dup, 1), (38, .invokespecial 21, 3), (41, .aastore, 1), (42, .iinc 1 1, 3), (45, .goto (-22), 3), (48, .return_, 1)]
theorem dX8_init : ∀ q ∈ tX8_init, decode mX8_init.2.1 q.1 = .ok q.2 := by decide +kernel
def tX8_read : IT := [(0, .aload_n 0, 1), (1, .aload_n 1, 1), (2, .getfield 22, 3), (5, .putfield 28, 3), (8, .aload_n 0, 1), (9, .aload_n 1, 1), (10, .getfield 29, 3), (13, .putfield 32, 3), (16, .aload_n 0, 1), (17, .aload_n 1, 1), (18, .getfield 33, 3), (21, .putfield 36, 3), (24, .iconst 0, 1), (25, .istore_n 3, 1), (26, .iload_n 3, 1), (27, .aload_n 0, 1), (28, .getfield 28, 3), (31, .if_icmp .ge 34, 3), (34, .aload_n 0, 1), (35, .getfield 11, 3), (38, .iload_n 3, 1), (39, .aaload, 1), (40, .aload_n 1, 1), (41, .aload_n 2, 1), (42, .iload_n 3, 1), (43, .invokevirtual 37, 3), (46, .aload_n 1, 1), (47, .getfield 41, 3), (50, .aload_n 0, 1), (51, .getfield 11, 3), (54, .iload_n 3, 1), (55, .aaload, 1), (56, .invokevirtual 45, 3), (59, .iinc 3 1, 3), (62, .goto (-36), 3), (65, .aload_n 0, 1), (66, .invokevirtual 51, 3), (69, .return_, 1)]
theorem dX8_read : ∀ q ∈ tX8_read, decode mX8_read.2.1 q.1 = .ok q.2 := by decide +kernel
def tX8_readDrawn : IT := [(0, .aload_n 0, 1), (1, .iload_n 2, 1), (2, .i2l, 1), (3, .putfield 54, 3), (6, .iconst 0, 1), (7, .istore_n 3, 1), (8, .iload_n 3, 1), (9, .aload_n 1, 1), (10, .getfield 22, 3), (13, .if_icmp .ge 73, 3), (16, .iconst 0, 1), (17, .istore 4, 2), (19, .iload 4, 2), (21, .aload_n 1, 1), (22, .getfield 29, 3), (25, .if_icmp .ge 55, 3), (28, .aload_n 1, 1), (29, .iload_n 3, 1), (30, .iload 4, 2), (32, .invokevirtual 58, 3), (35, .istore 5, 2), (37, .aload_n 0, 1), (38, .getfield 17, 3), (41, .iload_n 3, 1), (42, .iload 4, 2), (44, .invokestatic 62, 3), (47, .iload 5, 2), (49, .iconst (-1), 1), (50, .if_icmp .ne 7, 3), (53, .iconst (-1), 1), (54, .goto 19, 3), (57, .aload_n 0, 1), (58, .iload 5, 2), (60, .aload_n 1, 1), (61, .getfield 65, 3), (64, .iload 4, 2), (66, .aaload, 1), (67, .getfield 69, 3), (70, .invokevirtual 74, 3), (73, .iastore, 1), (74, .iinc 4 1, 3), (77, .goto (-58), 3), (80, .iinc 3 1, 3), (83, .goto (-75), 3), (86, .aload_n 0, 1), (87, .aload_n 1, 1), (88, .aload_n 0, 1), (89, .getfield 17, 3), (92, .invokevirtual 77, 3), (95, .return_, 1)]
theorem dX8_readDrawn : ∀ q ∈ tX8_readDrawn, decode mX8_readDrawn.2.1 q.1 = .ok q.2 := by decide +kernel
def tX8_swung : IT := [(0, .iload_n 1, 1), (1, .aload_n 0, 1), (2, .iconst 2, 1), (3, .iload_n 2, 1), (4, .imul, 1), (5, .iconst 1, 1), (6, .iadd, 1), (7, .invokevirtual 80, 3), (10, .iadd, 1), (11, .iload_n 2, 1), (12, .isub, 1), (13, .istore_n 3, 1), (14, .iconst 0, 1), (15, .ldc 84, 2), (17, .iload_n 3, 1), (18, .invokestatic 85, 3), (21, .invokestatic 90, 3), (24, .ireturn, 1)]
theorem dX8_swung : ∀ q ∈ tX8_swung, decode mX8_swung.2.1 q.1 = .ok q.2 := by decide +kernel
def tX8_draw : IT := [(0, .aload_n 0, 1), (1, .ldc2_w 93, 3), (4, .aload_n 0, 1), (5, .getfield 54, 3), (8, .lmul, 1), (9, .ldc2_w 95, 3), (12, .ladd, 1), (13, .ldc2_w 97, 3), (16, .land, 1), (17, .putfield 54, 3), (20, .iload_n 1, 1), (21, .iconst 1, 1), (22, .if_icmp .ge 7, 3), (25, .iconst 0, 1), (26, .goto 15, 3), (29, .aload_n 0, 1), (30, .getfield 54, 3), (33, .ldc2_w 99, 3), (36, .ldiv, 1), (37, .iload_n 1, 1), (38, .i2l, 1), (39, .lrem, 1), (40, .l2i, 1), (41, .ireturn, 1)]
theorem dX8_draw : ∀ q ∈ tX8_draw, decode mX8_draw.2.1 q.1 = .ok q.2 := by decide +kernel
def tX8_countFirsts : IT := [(0, .iconst 0, 1), (1, .istore_n 1, 1), (2, .iload_n 1, 1), (3, .aload_n 0, 1), (4, .getfield 28, 3), (7, .if_icmp .ge 19, 3), (10, .aload_n 0, 1), (11, .getfield 11, 3), (14, .iload_n 1, 1), (15, .aaload, 1), (16, .iconst 0, 1), (17, .putfield 101, 3), (20, .iinc 1 1, 3), (23, .goto (-21), 3), (26, .iconst 0, 1), (27, .istore_n 1, 1), (28, .iload_n 1, 1), (29, .aload_n 0, 1), (30, .getfield 32, 3), (33, .if_icmp .ge 65, 3), (36, .aload_n 0, 1), (37, .iload_n 1, 1), (38, .invokevirtual 104, 3), (41, .istore_n 2, 1), (42, .iconst 0, 1), (43, .istore_n 3, 1), (44, .iload_n 3, 1), (45, .aload_n 0, 1), (46, .getfield 28, 3), (49, .if_icmp .ge 43, 3), (52, .iload_n 2, 1), (53, .ifCond .le 33, 3), (56, .aload_n 0, 1), (57, .getfield 11, 3), (60, .iload_n 3, 1), (61, .aaload, 1), (62, .getfield 107, 3), (65, .iload_n 1, 1), (66, .iaload, 1), (67, .iload_n 2, 1), (68, .if_icmp .ne 18, 3), (71, .aload_n 0, 1), (72, .getfield 11, 3), (75, .iload_n 3, 1), (76, .aaload, 1), (77, .dup, 1), (78, .getfield 101, 3), (81, .iconst 1, 1), (82, .iadd, 1), (83, .putfield 101, 3), (86, .iinc 3 1, 3), (89, .goto (-45), 3), (92, .iinc 1 1, 3), (95, .goto (-67), 3), (98, .return_, 1)]
theorem dX8_countFirsts : ∀ q ∈ tX8_countFirsts, decode mX8_countFirsts.2.1 q.1 = .ok q.2 := by decide +kernel
def tX8_mostIn : IT := [(0, .iconst 0, 1), (1, .istore_n 2, 1), (2, .iconst 0, 1), (3, .istore_n 3, 1), (4, .iload_n 3, 1), (5, .aload_n 0, 1), (6, .getfield 28, 3), (9, .if_icmp .ge 25, 3), (12, .iload_n 2, 1), (13, .aload_n 0, 1), (14, .getfield 11, 3), (17, .iload_n 3, 1), (18, .aaload, 1), (19, .getfield 107, 3), (22, .iload_n 1, 1), (23, .iaload, 1), (24, .invokestatic 90, 3), (27, .istore_n 2, 1), (28, .iinc 3 1, 3), (31, .goto (-27), 3), (34, .iload_n 2, 1), (35, .ireturn, 1)]
theorem dX8_mostIn : ∀ q ∈ tX8_mostIn, decode mX8_mostIn.2.1 q.1 = .ok q.2 := by decide +kernel
def tX8_totalOf : IT := [(0, .iload_n 1, 1), (1, .iconst 0, 1), (2, .aload_n 0, 1), (3, .getfield 28, 3), (6, .iconst 1, 1), (7, .isub, 1), (8, .invokestatic 110, 3), (11, .ifCond .eq 25, 3), (14, .aload_n 0, 1), (15, .getfield 11, 3), (18, .iload_n 1, 1), (19, .aaload, 1), (20, .getfield 114, 3), (23, .aload_n 0, 1), (24, .getfield 11, 3), (27, .iload_n 1, 1), (28, .aaload, 1), (29, .getfield 117, 3), (32, .iadd, 1), (33, .goto 4, 3), (36, .iconst 0, 1), (37, .ireturn, 1)]
theorem dX8_totalOf : ∀ q ∈ tX8_totalOf, decode mX8_totalOf.2.1 q.1 = .ok q.2 := by decide +kernel
def tX8_isAhead : IT := [(0, .aload_n 0, 1), (1, .iload_n 1, 1), (2, .invokevirtual 120, 3), (5, .aload_n 0, 1), (6, .iload_n 2, 1), (7, .invokevirtual 120, 3), (10, .isub, 1), (11, .istore_n 3, 1), (12, .iload_n 3, 1), (13, .ifCond .ne 34, 3), (16, .aload_n 0, 1), (17, .getfield 36, 3), (20, .iconst 1, 1), (21, .if_icmp .ne 26, 3), (24, .aload_n 0, 1), (25, .getfield 11, 3), (28, .iload_n 1, 1), (29, .aaload, 1), (30, .getfield 123, 3), (33, .aload_n 0, 1), (34, .getfield 11, 3), (37, .iload_n 2, 1), (38, .aaload, 1), (39, .getfield 123, 3), (42, .isub, 1), (43, .istore_n 3, 1), (44, .goto 35, 3), (47, .iload_n 3, 1), (48, .ifCond .ne 31, 3), (51, .aload_n 0, 1), (52, .getfield 36, 3), (55, .iconst 2, 1), (56, .if_icmp .ne 23, 3), (59, .aload_n 0, 1), (60, .getfield 11, 3), (63, .iload_n 1, 1), (64, .aaload, 1), (65, .getfield 101, 3), (68, .aload_n 0, 1), (69, .getfield 11, 3), (72, .iload_n 2, 1), (73, .aaload, 1), (74, .getfield 101, 3), (77, .isub, 1), (78, .istore_n 3, 1), (79, .iload_n 3, 1), (80, .ifCond .ne 16, 3), (83, .iload_n 1, 1), (84, .iload_n 2, 1), (85, .if_icmp .ge 7, 3), (88, .iconst 1, 1), (89, .goto 16, 3), (92, .iconst 0, 1), (93, .goto 12, 3), (96, .iload_n 3, 1), (97, .ifCond .le 7, 3), (100, .iconst 1, 1), (101, .goto 4, 3), (104, .iconst 0, 1), (105, .ireturn, 1)]
theorem dX8_isAhead : ∀ q ∈ tX8_isAhead, decode mX8_isAhead.2.1 q.1 = .ok q.2 := by decide +kernel
def tX8_placeOf : IT := [(0, .iconst 0, 1), (1, .istore_n 2, 1), (2, .iconst 0, 1), (3, .istore_n 3, 1), (4, .iload_n 3, 1), (5, .aload_n 0, 1), (6, .getfield 28, 3), (9, .if_icmp .ge 31, 3), (12, .iload_n 2, 1), (13, .iload_n 3, 1), (14, .iload_n 1, 1), (15, .if_icmp .eq 16, 3), (18, .aload_n 0, 1), (19, .iload_n 3, 1), (20, .iload_n 1, 1), (21, .invokevirtual 126, 3), (24, .ifCond .eq 7, 3), (27, .iconst 1, 1), (28, .goto 4, 3), (31, .iconst 0, 1), (32, .iadd, 1), (33, .istore_n 2, 1), (34, .iinc 3 1, 3), (37, .goto (-33), 3), (40, .iload_n 2, 1), (41, .ireturn, 1)]
theorem dX8_placeOf : ∀ q ∈ tX8_placeOf, decode mX8_placeOf.2.1 q.1 = .ok q.2 := by decide +kernel
def tX8_athleteAt : IT := [(0, .iconst 0, 1), (1, .istore_n 2, 1), (2, .iload_n 2, 1), (3, .aload_n 0, 1), (4, .getfield 28, 3), (7, .if_icmp .ge 20, 3), (10, .aload_n 0, 1), (11, .iload_n 2, 1), (12, .invokevirtual 130, 3), (15, .iload_n 1, 1), (16, .if_icmp .ne 5, 3), (19, .iload_n 2, 1), (20, .ireturn, 1), (21, .iinc 2 1, 3), (24, .goto (-22), 3), (27, .iconst (-1), 1), (28, .ireturn, 1)]
theorem dX8_athleteAt : ∀ q ∈ tX8_athleteAt, decode mX8_athleteAt.2.1 q.1 = .ok q.2 := by decide +kernel
def tX9_init : IT := [(0, .aload_n 0, 1), (1, .invokespecial 3, 3), (4, .aload_n 0, 1), (5, .sipush 1201, 3), (8, .anewarray 9, 3), (11, .putfield 11, 3), (14, .aload_n 0, 1), (15, .sipush 1201, 3), (18, .newarray .int, 2), (20, .putfield 17, 3), (23, .aload_n 0, 1), (24, .sipush 1201, 3), (27, .newarray .int, 2), (29, .putfield 21, 3), (32, .aload_n 0, 1), (33, .invokestatic 24, 3), (36, .putfield 28, 3), (39, .return_, 1)]
theorem dX9_init : ∀ q ∈ tX9_init, decode mX9_init.2.1 q.1 = .ok q.2 := by decide +kernel
def tX9_split : IT := [(0, .aload_n 0, 1), (1, .iconst 0, 1), (2, .putfield 31, 3), (5, .iconst 0, 1), (6, .istore_n 3, 1), (7, .iload_n 3, 1), (8, .iload_n 2, 1), (9, .if_icmp .ge 47, 3), (12, .aload_n 1, 1), (13, .iload_n 3, 1), (14, .iload_n 2, 1), (15, .invokestatic 35, 3), (18, .istore 4, 2), (20, .aload_n 1, 1), (21, .iload_n 3, 1), (22, .baload, 1), (23, .bipush 32, 2), (25, .if_icmp .eq 19, 3), (28, .aload_n 1, 1), (29, .iload_n 3, 1), (30, .baload, 1), (31, .bipush 10, 2), (33, .if_icmp .eq 11, 3), (36, .aload_n 0, 1), (37, .aload_n 1, 1), (38, .iload_n 3, 1), (39, .iload 4, 2), (41, .invokevirtual 39, 3), (44, .iload 4, 2), (46, .iload_n 3, 1), (47, .iconst 1, 1), (48, .iadd, 1), (49, .invokestatic 43, 3), (52, .istore_n 3, 1), (53, .goto (-46), 3), (56, .aload_n 0, 1), (57, .getfield 11, 3), (60, .aload_n 0, 1), (61, .getfield 31, 3), (64, .getstatic 49, 3), (67, .aastore, 1), (68, .aload_n 0, 1), (69, .getfield 17, 3), (72, .aload_n 0, 1), (73, .getfield 31, 3), (76, .iload_n 2, 1), (77, .iastore, 1), (78, .return_, 1)]
theorem dX9_split : ∀ q ∈ tX9_split, decode mX9_split.2.1 q.1 = .ok q.2 := by decide +kernel
def tX9_endOf : IT := [(0, .iload_n 1, 1), (1, .iconst 1, 1), (2, .iadd, 1), (3, .istore_n 3, 1), (4, .aload_n 0, 1), (5, .iload_n 1, 1), (6, .baload, 1), (7, .invokestatic 53, 3), (10, .ifCond .eq 23, 3), (13, .iload_n 3, 1), (14, .iload_n 2, 1), (15, .if_icmp .ge 47, 3), (18, .aload_n 0, 1), (19, .iload_n 3, 1), (20, .baload, 1), (21, .invokestatic 53, 3), (24, .ifCond .eq 38, 3), (27, .iinc 3 1, 3), (30, .goto (-17), 3), (33, .aload_n 0, 1), (34, .iload_n 1, 1), (35, .baload, 1), (36, .invokestatic 57, 3), (39, .ifCond .eq 23, 3), (42, .iload_n 3, 1), (43, .iload_n 2, 1), (44, .if_icmp .ge 18, 3), (47, .aload_n 0, 1), (48, .iload_n 3, 1), (49, .baload, 1), (50, .invokestatic 57, 3), (53, .ifCond .eq 9, 3), (56, .iinc 3 1, 3), (59, .goto (-17), 3), (62, .iload_n 3, 1), (63, .ireturn, 1)]
theorem dX9_endOf : ∀ q ∈ tX9_endOf, decode mX9_endOf.2.1 q.1 = .ok q.2 := by decide +kernel
def tX9_isLetter : IT := [(0, .iload_n 0, 1), (1, .bipush 97, 2), (3, .if_icmp .lt 13, 3), (6, .iload_n 0, 1), (7, .bipush 122, 2), (9, .if_icmp .gt 7, 3), (12, .iconst 1, 1), (13, .goto 4, 3), (16, .iconst 0, 1), (17, .ireturn, 1)]
theorem dX9_isLetter : ∀ q ∈ tX9_isLetter, decode mX9_isLetter.2.1 q.1 = .ok q.2 := by decide +kernel
def tX9_isDigit : IT := [(0, .iload_n 0, 1), (1, .bipush 48, 2), (3, .if_icmp .lt 13, 3), (6, .iload_n 0, 1), (7, .bipush 57, 2), (9, .if_icmp .gt 7, 3), (12, .iconst 1, 1), (13, .goto 4, 3), (16, .iconst 0, 1), (17, .ireturn, 1)]
theorem dX9_isDigit : ∀ q ∈ tX9_isDigit, decode mX9_isDigit.2.1 q.1 = .ok q.2 := by decide +kernel
def tX9_add : IT := [(0, .aload_n 0, 1), (1, .getfield 31, 3), (4, .sipush 1200, 3), (7, .if_icmp .lt 4, 3), (10, .return_, 1), (11, .aload_n 0, 1), (12, .getfield 17, 3), (15, .aload_n 0, 1), (16, .getfield 31, 3), (19, .iload_n 2, 1), (20, .iastore, 1), (21, .aload_n 1, 1), (22, .iload_n 2, 1), (23, .baload, 1), (24, .invokestatic 57, 3), (27, .ifCond .eq 33, 3), (30, .aload_n 0, 1), (31, .getfield 11, 3), (34, .aload_n 0, 1), (35, .getfield 31, 3), (38, .getstatic 60, 3), (41, .aastore, 1), (42, .aload_n 0, 1), (43, .getfield 21, 3), (46, .aload_n 0, 1), (47, .getfield 31, 3), (50, .aload_n 1, 1), (51, .iload_n 2, 1), (52, .iload_n 3, 1), (53, .invokestatic 63, 3), (56, .iastore, 1), (57, .goto 19, 3), (60, .aload_n 0, 1), (61, .getfield 11, 3), (64, .aload_n 0, 1), (65, .getfield 31, 3), (68, .aload_n 0, 1), (69, .aload_n 1, 1), (70, .iload_n 2, 1), (71, .iload_n 3, 1), (72, .invokevirtual 66, 3), (75, .aastore, 1), (76, .aload_n 0, 1), (77, .dup, 1), (78, .getfield 31, 3), (81, .iconst 1, 1), (82, .iadd, 1), (83, .putfield 31, 3), (86, .return_, 1)]
theorem dX9_add : ∀ q ∈ tX9_add, decode mX9_add.2.1 q.1 = .ok q.2 := by decide +kernel
def tX9_numberOf : IT := [(0, .iconst 0, 1), (1, .istore_n 3, 1), (2, .iload_n 1, 1), (3, .istore 4, 2), (5, .iload 4, 2), (7, .iload_n 2, 1), (8, .if_icmp .ge 27, 3), (11, .ldc 70, 2), (13, .iload_n 3, 1), (14, .bipush 10, 2), (16, .imul, 1), (17, .aload_n 0, 1), (18, .iload 4, 2), (20, .baload, 1), (21, .iadd, 1), (22, .bipush 48, 2), (24, .isub, 1), (25, .invokestatic 71, 3), (28, .istore_n 3, 1), (29, .iinc 4 1, 3), (32, .goto (-27), 3), (35, .iload_n 3, 1), (36, .ireturn, 1)]
theorem dX9_numberOf : ∀ q ∈ tX9_numberOf, decode mX9_numberOf.2.1 q.1 = .ok q.2 := by decide +kernel
def tX9_signOf : IT := [(0, .iconst 0, 1), (1, .istore 4, 2), (3, .iload 4, 2), (5, .aload_n 0, 1), (6, .getfield 28, 3), (9, .arraylength, 1), (10, .if_icmp .ge 33, 3), (13, .aload_n 0, 1), (14, .getfield 28, 3), (17, .iload 4, 2), (19, .aaload, 1), (20, .aload_n 1, 1), (21, .iload_n 2, 1), (22, .iload_n 3, 1), (23, .invokevirtual 74, 3), (26, .ifCond .eq 11, 3), (29, .aload_n 0, 1), (30, .getfield 28, 3), (33, .iload 4, 2), (35, .aaload, 1), (36, .areturn, 1), (37, .iinc 4 1, 3), (40, .goto (-37), 3), (43, .getstatic 78, 3), (46, .areturn, 1)]
theorem dX9_signOf : ∀ q ∈ tX9_signOf, decode mX9_signOf.2.1 q.1 = .ok q.2 := by decide +kernel
def tX10_init : IT := [(0, .aload_n 0, 1), (1, .invokespecial 3, 3), (4, .aload_n 0, 1), (5, .bipush 8, 2), (7, .newarray .int, 2), (9, .putfield 9, 3), (12, .aload_n 0, 1), (13, .bipush 8, 2), (15, .newarray .int, 2), (17, .putfield 15, 3), (20, .return_, 1)]
theorem dX10_init : ∀ q ∈ tX10_init, decode mX10_init.2.1 q.1 = .ok q.2 := by decide +kernel
def tX10_valueOf : IT := [(0, .iload_n 1, 1), (1, .iconst (-1), 1), (2, .if_icmp .ne 5, 3), (5, .iconst 0, 1), (6, .ireturn, 1), (7, .aload_n 0, 1), (8, .getfield 18, 3), (11, .ifCond .eq 12, 3), (14, .iload_n 1, 1), (15, .aload_n 0, 1), (16, .getfield 22, 3), (19, .isub, 1), (20, .goto 9, 3), (23, .aload_n 0, 1), (24, .getfield 22, 3), (27, .iload_n 1, 1), (28, .isub, 1), (29, .istore_n 2, 1), (30, .iload_n 2, 1), (31, .ifCond .ge 5, 3), (34, .iconst 0, 1), (35, .ireturn, 1), (36, .aload_n 0, 1), (37, .getfield 26, 3), (40, .iconst 3, 1), (41, .if_icmp .ne 11, 3), (44, .aload_n 0, 1), (45, .iload_n 2, 1), (46, .invokevirtual 29, 3), (49, .goto 8, 3), (52, .aload_n 0, 1), (53, .iload_n 2, 1), (54, .invokevirtual 33, 3), (57, .ireturn, 1)]
theorem dX10_valueOf : ∀ q ∈ tX10_valueOf, decode mX10_valueOf.2.1 q.1 = .ok q.2 := by decide +kernel
def tX10_alongFormula : IT := [(0, .aload_n 0, 1), (1, .getfield 36, 3), (4, .iconst 1, 1), (5, .if_icmp .ge 5, 3), (8, .iconst 0, 1), (9, .ireturn, 1), (10, .iload_n 1, 1), (11, .i2l, 1), (12, .lstore_n 2, 1), (13, .aload_n 0, 1), (14, .getfield 26, 3), (17, .iconst 1, 1), (18, .if_icmp .ne 12, 3), (21, .iload_n 1, 1), (22, .i2l, 1), (23, .iload_n 1, 1), (24, .i2l, 1), (25, .lmul, 1), (26, .lstore_n 2, 1), (27, .goto 20, 3), (30, .aload_n 0, 1), (31, .getfield 26, 3), (34, .iconst 2, 1), (35, .if_icmp .ne 12, 3), (38, .bipush 100, 2), (40, .iload_n 1, 1), (41, .imul, 1), (42, .invokestatic 39, 3), (45, .i2l, 1), (46, .lstore_n 2, 1), (47, .aload_n 0, 1), (48, .getfield 42, 3), (51, .i2l, 1), (52, .lload_n 2, 1), (53, .lmul, 1), (54, .aload_n 0, 1), (55, .getfield 36, 3), (58, .i2l, 1), (59, .ldiv, 1), (60, .ldc2_w 45, 3), (63, .invokestatic 47, 3), (66, .l2i, 1), (67, .ireturn, 1)]
theorem dX10_alongFormula : ∀ q ∈ tX10_alongFormula, decode mX10_alongFormula.2.1 q.1 = .ok q.2 := by decide +kernel
def tX10_rootOf : IT := [(0, .iconst 0, 1), (1, .istore_n 1, 1), (2, .sipush 2048, 3), (5, .istore_n 2, 1), (6, .iload_n 2, 1), (7, .ifCond .le 23, 3), (10, .iload_n 1, 1), (11, .iload_n 2, 1), (12, .iadd, 1), (13, .istore_n 3, 1), (14, .iload_n 3, 1), (15, .iload_n 3, 1), (16, .imul, 1), (17, .iload_n 0, 1), (18, .if_icmp .gt 5, 3), (21, .iload_n 3, 1), (22, .istore_n 1, 1), (23, .iload_n 2, 1), (24, .iconst 1, 1), (25, .ishr, 1), (26, .istore_n 2, 1), (27, .goto (-21), 3), (30, .iload_n 1, 1), (31, .ireturn, 1)]
theorem dX10_rootOf : ∀ q ∈ tX10_rootOf, decode mX10_rootOf.2.1 q.1 = .ok q.2 := by decide +kernel
def tX10_alongTable : IT := [(0, .iconst 0, 1), (1, .istore_n 2, 1), (2, .iload_n 2, 1), (3, .aload_n 0, 1), (4, .getfield 53, 3), (7, .if_icmp .ge 19, 3), (10, .aload_n 0, 1), (11, .getfield 9, 3), (14, .iload_n 2, 1), (15, .iaload, 1), (16, .iload_n 1, 1), (17, .if_icmp .gt 9, 3), (20, .iinc 2 1, 3), (23, .goto (-21), 3), (26, .iload_n 2, 1), (27, .ifCond .ne 5, 3), (30, .iconst 0, 1), (31, .ireturn, 1), (32, .aload_n 0, 1), (33, .getfield 15, 3), (36, .iload_n 2, 1), (37, .iconst 1, 1), (38, .isub, 1), (39, .iaload, 1), (40, .istore_n 3, 1), (41, .iload_n 2, 1), (42, .aload_n 0, 1), (43, .getfield 53, 3), (46, .if_icmp .lt 5, 3), (49, .iload_n 3, 1), (50, .ireturn, 1), (51, .aload_n 0, 1), (52, .getfield 9, 3), (55, .iload_n 2, 1), (56, .iaload, 1), (57, .aload_n 0, 1), (58, .getfield 9, 3), (61, .iload_n 2, 1), (62, .iconst 1, 1), (63, .isub, 1), (64, .iaload, 1), (65, .isub, 1), (66, .istore 4, 2), (68, .iload 4, 2), (70, .iconst 1, 1), (71, .if_icmp .ge 5, 3), (74, .iload_n 3, 1), (75, .ireturn, 1), (76, .iload_n 3, 1), (77, .iload_n 1, 1), (78, .aload_n 0, 1), (79, .getfield 9, 3), (82, .iload_n 2, 1), (83, .iconst 1, 1), (84, .isub, 1), (85, .iaload, 1), (86, .isub, 1), (87, .aload_n 0, 1), (88, .getfield 15, 3), (91, .iload_n 2, 1), (92, .iaload, 1), (93, .iload_n 3, 1), (94, .isub, 1), (95, .imul, 1), (96, .iload 4, 2), (98, .idiv, 1), (99, .iadd, 1), (100, .ireturn, 1)]
theorem dX10_alongTable : ∀ q ∈ tX10_alongTable, decode mX10_alongTable.2.1 q.1 = .ok q.2 := by decide +kernel
def tX10_mostValue : IT := [(0, .aload_n 0, 1), (1, .aload_n 0, 1), (2, .getfield 18, 3), (5, .ifCond .eq 8, 3), (8, .ldc 56, 2), (10, .goto 4, 3), (13, .iconst 0, 1), (14, .invokevirtual 57, 3), (17, .ireturn, 1)]
theorem dX10_mostValue : ∀ q ∈ tX10_mostValue, decode mX10_mostValue.2.1 q.1 = .ok q.2 := by decide +kernel
def tX10_worstFor : IT := [(0, .aload_n 0, 1), (1, .invokevirtual 60, 3), (4, .iload_n 1, 1), (5, .if_icmp .ge 5, 3), (8, .iconst (-1), 1), (9, .ireturn, 1), (10, .iconst 0, 1), (11, .istore_n 2, 1), (12, .ldc 56, 2), (14, .istore_n 3, 1), (15, .iconst 0, 1), (16, .istore 4, 2), (18, .iload 4, 2), (20, .bipush 17, 2), (22, .if_icmp .ge 46, 3), (25, .iload_n 2, 1), (26, .iload_n 3, 1), (27, .if_icmp .ge 41, 3), (30, .iload_n 2, 1), (31, .iload_n 3, 1), (32, .iadd, 1), (33, .iconst 2, 1), (34, .idiv, 1), (35, .istore 5, 2), (37, .aload_n 0, 1), (38, .aload_n 0, 1), (39, .iload 5, 2), (41, .invokevirtual 64, 3), (44, .invokevirtual 57, 3), (47, .iload_n 1, 1), (48, .if_icmp .lt 9, 3), (51, .iload 5, 2), (53, .istore_n 3, 1), (54, .goto 8, 3), (57, .iload 5, 2), (59, .iconst 1, 1), (60, .iadd, 1), (61, .istore_n 2, 1), (62, .iinc 4 1, 3), (65, .goto (-47), 3), (68, .aload_n 0, 1), (69, .iload_n 2, 1), (70, .invokevirtual 64, 3), (73, .ireturn, 1)]
theorem dX10_worstFor : ∀ q ∈ tX10_worstFor, decode mX10_worstFor.2.1 q.1 = .ok q.2 := by decide +kernel
def tX10_markAt : IT := [(0, .aload_n 0, 1), (1, .getfield 18, 3), (4, .ifCond .eq 7, 3), (7, .iload_n 1, 1), (8, .goto 7, 3), (11, .ldc 56, 2), (13, .iload_n 1, 1), (14, .isub, 1), (15, .ireturn, 1)]
theorem dX10_markAt : ∀ q ∈ tX10_markAt, decode mX10_markAt.2.1 q.1 = .ok q.2 := by decide +kernel
def tX10_isBetter : IT := [(0, .aload_n 0, 1), (1, .getfield 18, 3), (4, .ifCond .eq 16, 3), (7, .iload_n 1, 1), (8, .iload_n 2, 1), (9, .if_icmp .le 7, 3), (12, .iconst 1, 1), (13, .goto 17, 3), (16, .iconst 0, 1), (17, .goto 13, 3), (20, .iload_n 1, 1), (21, .iload_n 2, 1), (22, .if_icmp .ge 7, 3), (25, .iconst 1, 1), (26, .goto 4, 3), (29, .iconst 0, 1), (30, .ireturn, 1)]
theorem dX10_isBetter : ∀ q ∈ tX10_isBetter, decode mX10_isBetter.2.1 q.1 = .ok q.2 := by decide +kernel
def tX10_betterBy : IT := [(0, .aload_n 0, 1), (1, .getfield 18, 3), (4, .ifCond .eq 14, 3), (7, .ldc 56, 2), (9, .iload_n 1, 1), (10, .iload_n 2, 1), (11, .iadd, 1), (12, .invokestatic 67, 3), (15, .goto 10, 3), (18, .iconst 0, 1), (19, .iload_n 1, 1), (20, .iload_n 2, 1), (21, .isub, 1), (22, .invokestatic 70, 3), (25, .ireturn, 1)]
theorem dX10_betterBy : ∀ q ∈ tX10_betterBy, decode mX10_betterBy.2.1 q.1 = .ok q.2 := by decide +kernel
def tX11_init : IT := [(0, .aload_n 0, 1), (1, .invokespecial 1, 3), (4, .aload_n 0, 1), (5, .sipush 1200, 3), (8, .newarray .byte, 2), (10, .putfield 9, 3), (13, .aload_n 0, 1), (14, .new 13, 3), (17, .dup, 1), (18, .invokespecial 15, 3), (21, .putfield 16, 3), (24, .aload_n 0, 1), (25, .new 20, 3), (28, .dup, 1), (29, .invokespecial 22, 3), (32, .putfield 23, 3), (35, .aload_n 0, 1), (36, .new 27, 3), (39, .dup, 1), (40, .invokespecial 29, 3), (43, .putfield 30, 3), (46, .aload_n 0, 1), (47, .new 34, 3), (50, .dup, 1), (51, .invokespecial 36, 3), (54, .putfield 37, 3), (57, .aload_n 0, 1), (58, .new 41, 3), (61, .dup, 1), (62, .invokespecial 43, 3), (65, .putfield 44, 3), (68, .aload_n 0, 1), (69, .new 48, 3), (72, .dup, 1), (73, .invokespecial 50, 3), (76, .putfield 51, 3), (79, .aload_n 0, 1), (80, .new 55, 3), (83, .dup, 1), (84, .invokespecial 57, 3), (87, .putfield 58, 3), (90, .aload_n 0, 1), (91, .new 55, 3), (94, .dup, 1), (95, .invokespecial 57, 3), (98, .putfield 62, 3), (101, .aload_n 0, 1), (102, .bipush 10, 2), (104, .newarray .int, 2), (106, .putfield 65, 3), (109, .return_, 1)]
theorem dX11_init : ∀ q ∈ tX11_init, decode mX11_init.2.1 q.1 = .ok q.2 := by decide +kernel
def tX11_feed : IT := [(0, .aload_n 0, 1), (1, .getfield 69, 3), (4, .sipush 1180, 3), (7, .if_icmp .le 5, 3), (10, .iconst (-1), 1), (11, .ireturn, 1), (12, .aload_n 0, 1), (13, .iload_n 1, 1), (14, .invokevirtual 73, 3), (17, .aload_n 0, 1), (18, .iload_n 2, 1), (19, .invokevirtual 73, 3), (22, .aload_n 0, 1), (23, .iload_n 3, 1), (24, .invokevirtual 73, 3), (27, .aload_n 0, 1), (28, .iload 4, 2), (30, .invokevirtual 73, 3), (33, .aload_n 0, 1), (34, .iload 5, 2), (36, .invokevirtual 73, 3), (39, .aload_n 0, 1), (40, .getfield 69, 3), (43, .ireturn, 1)]
theorem dX11_feed : ∀ q ∈ tX11_feed, decode mX11_feed.2.1 q.1 = .ok q.2 := by decide +kernel
def tX11_end : IT := [(0, .iload_n 1, 1), (1, .ifCond .lt 11, 3), (4, .iload_n 1, 1), (5, .aload_n 0, 1), (6, .getfield 69, 3), (9, .if_icmp .le 5, 3), (12, .iconst (-1), 1), (13, .ireturn, 1), (14, .aload_n 0, 1), (15, .iload_n 1, 1), (16, .putfield 69, 3), (19, .iload_n 1, 1), (20, .ireturn, 1)]
theorem dX11_end : ∀ q ∈ tX11_end, decode mX11_end.2.1 q.1 = .ok q.2 := by decide +kernel
def tX11_text : IT := [(0, .aload_n 0, 1), (1, .getfield 23, 3), (4, .aload_n 0, 1), (5, .getfield 9, 3), (8, .aload_n 0, 1), (9, .getfield 69, 3), (12, .invokevirtual 77, 3), (15, .istore_n 1, 1), (16, .aload_n 0, 1), (17, .iconst 0, 1), (18, .putfield 69, 3), (21, .iload_n 1, 1), (22, .bipush (-4), 2), (24, .if_icmp .ne 6, 3), (27, .bipush (-4), 2), (29, .ireturn, 1), (30, .aload_n 0, 1), (31, .aload_n 0, 1), (32, .getfield 23, 3), (35, .aload_n 0, 1), (36, .getfield 37, 3), (39, .invokevirtual 81, 3), (42, .putfield 37, 3), (45, .aload_n 0, 1), (46, .iconst 1, 1), (47, .putfield 85, 3), (50, .aload_n 0, 1), (51, .getfield 30, 3), (54, .invokevirtual 89, 3), (57, .iload_n 1, 1), (58, .ireturn, 1)]
theorem dX11_text : ∀ q ∈ tX11_text, decode mX11_text.2.1 q.1 = .ok q.2 := by decide +kernel
def tX11_fault : IT := [(0, .iload_n 1, 1), (1, .ifCond .ne 11, 3), (4, .aload_n 0, 1), (5, .getfield 23, 3), (8, .getfield 92, 3), (11, .ireturn, 1), (12, .iload_n 1, 1), (13, .iconst 1, 1), (14, .if_icmp .ne 13, 3), (17, .aload_n 0, 1), (18, .getfield 23, 3), (21, .getfield 95, 3), (24, .goto 4, 3), (27, .iconst (-1), 1), (28, .ireturn, 1)]
theorem dX11_fault : ∀ q ∈ tX11_fault, decode mX11_fault.2.1 q.1 = .ok q.2 := by decide +kernel
def tX11_count : IT := [(0, .iload_n 1, 1), (1, .tableswitch 116 0 7 #[47, 55, 63, 74, 82, 90, 103, 108], 47), (48, .aload_n 0, 1), (49, .getfield 37, 3), (52, .getfield 98, 3), (55, .ireturn, 1), (56, .aload_n 0, 1), (57, .getfield 37, 3), (60, .getfield 101, 3), (63, .ireturn, 1), (64, .aload_n 0, 1), (65, .getfield 37, 3), (68, .getfield 104, 3), (71, .getfield 108, 3), (74, .ireturn, 1), (75, .aload_n 0, 1), (76, .getfield 37, 3), (79, .getfield 113, 3), (82, .ireturn, 1), (83, .aload_n 0, 1), (84, .getfield 30, 3), (87, .getfield 116, 3), (90, .ireturn, 1), (91, .aload_n 0, 1), (92, .getfield 85, 3), (95, .ifCond .eq 7, 3), (98, .iconst 1, 1), (99, .goto 4, 3), (102, .iconst 0, 1), (103, .ireturn, 1), (104, .aload_n 0, 1), (105, .getfield 69, 3), (108, .ireturn, 1), (109, .aload_n 0, 1), (110, .getfield 16, 3), (113, .getfield 117, 3), (116, .ireturn, 1), (117, .iconst (-1), 1), (118, .ireturn, 1)]
theorem dX11_count : ∀ q ∈ tX11_count, decode mX11_count.2.1 q.1 = .ok q.2 := by decide +kernel
def tX11_event : IT := [(0, .aload_n 0, 1), (1, .iload_n 1, 1), (2, .invokevirtual 120, 3), (5, .ifCond .ne 6, 3), (8, .bipush (-2), 2), (10, .ireturn, 1), (11, .aload_n 0, 1), (12, .getfield 37, 3), (15, .getfield 124, 3), (18, .iload_n 1, 1), (19, .aaload, 1), (20, .astore_n 3, 1), (21, .iload_n 2, 1), (22, .tableswitch 103 0 5 #[38, 51, 56, 61, 81, 98], 38), (60, .aload_n 3, 1), (61, .getfield 128, 3), (64, .ifCond .eq 7, 3), (67, .iconst 1, 1), (68, .goto 4, 3), (71, .iconst 0, 1), (72, .ireturn, 1), (73, .aload_n 3, 1), (74, .getfield 133, 3), (77, .ireturn, 1), (78, .aload_n 3, 1), (79, .getfield 136, 3), (82, .ireturn, 1), (83, .aload_n 3, 1), (84, .getfield 136, 3), (87, .iconst 3, 1), (88, .if_icmp .ne 10, 3), (91, .aload_n 3, 1), (92, .getfield 139, 3), (95, .goto 7, 3), (98, .aload_n 3, 1), (99, .getfield 142, 3), (102, .ireturn, 1), (103, .aload_n 3, 1), (104, .getfield 136, 3), (107, .iconst 3, 1), (108, .if_icmp .ne 7, 3), (111, .iconst (-1), 1), (112, .goto 7, 3), (115, .aload_n 3, 1), (116, .getfield 145, 3), (119, .ireturn, 1), (120, .aload_n 3, 1), (121, .getfield 148, 3), (124, .ireturn, 1), (125, .bipush (-2), 2), (127, .ireturn, 1)]
theorem dX11_event : ∀ q ∈ tX11_event, decode mX11_event.2.1 q.1 = .ok q.2 := by decide +kernel
def tX11_points : IT := [(0, .aload_n 0, 1), (1, .iload_n 1, 1), (2, .invokevirtual 120, 3), (5, .ifCond .eq 10, 3), (8, .iload_n 2, 1), (9, .invokestatic 151, 3), (12, .ifCond .ne 6, 3), (15, .bipush (-2), 2), (17, .ireturn, 1), (18, .aload_n 0, 1), (19, .getfield 37, 3), (22, .getfield 124, 3), (25, .iload_n 1, 1), (26, .aaload, 1), (27, .iload_n 2, 1), (28, .invokevirtual 154, 3), (31, .ireturn, 1)]
theorem dX11_points : ∀ q ∈ tX11_points, decode mX11_points.2.1 q.1 = .ok q.2 := by decide +kernel
def tX11_worst : IT := [(0, .aload_n 0, 1), (1, .iload_n 1, 1), (2, .invokevirtual 120, 3), (5, .ifCond .eq 14, 3), (8, .iload_n 2, 1), (9, .iconst 0, 1), (10, .sipush 2000, 3), (13, .invokestatic 158, 3), (16, .ifCond .ne 6, 3), (19, .bipush (-2), 2), (21, .ireturn, 1), (22, .aload_n 0, 1), (23, .getfield 37, 3), (26, .getfield 124, 3), (29, .iload_n 1, 1), (30, .aaload, 1), (31, .iload_n 2, 1), (32, .invokevirtual 162, 3), (35, .ireturn, 1)]
theorem dX11_worst : ∀ q ∈ tX11_worst, decode mX11_worst.2.1 q.1 = .ok q.2 := by decide +kernel
def tX11_top : IT := [(0, .aload_n 0, 1), (1, .iload_n 1, 1), (2, .invokevirtual 120, 3), (5, .ifCond .eq 18, 3), (8, .aload_n 0, 1), (9, .getfield 37, 3), (12, .getfield 124, 3), (15, .iload_n 1, 1), (16, .aaload, 1), (17, .invokevirtual 165, 3), (20, .goto 5, 3), (23, .bipush (-2), 2), (25, .ireturn, 1)]
theorem dX11_top : ∀ q ∈ tX11_top, decode mX11_top.2.1 q.1 = .ok q.2 := by decide +kernel
def tX11_same : IT := [(0, .aload_n 0, 1), (1, .iload_n 1, 1), (2, .invokevirtual 120, 3), (5, .ifCond .eq 18, 3), (8, .aload_n 0, 1), (9, .iload_n 3, 1), (10, .invokevirtual 120, 3), (13, .ifCond .eq 10, 3), (16, .iload_n 2, 1), (17, .invokestatic 151, 3), (20, .ifCond .ne 6, 3), (23, .bipush (-2), 2), (25, .ireturn, 1), (26, .aload_n 0, 1), (27, .getfield 37, 3), (30, .getfield 124, 3), (33, .iload_n 3, 1), (34, .aaload, 1), (35, .aload_n 0, 1), (36, .getfield 37, 3), (39, .getfield 124, 3), (42, .iload_n 1, 1), (43, .aaload, 1), (44, .iload_n 2, 1), (45, .invokevirtual 154, 3), (48, .invokevirtual 162, 3), (51, .ireturn, 1)]
theorem dX11_same : ∀ q ∈ tX11_same, decode mX11_same.2.1 q.1 = .ok q.2 := by decide +kernel
def tX11_step : IT := [(0, .aload_n 0, 1), (1, .iload_n 1, 1), (2, .invokevirtual 120, 3), (5, .ifCond .eq 10, 3), (8, .iload_n 2, 1), (9, .invokestatic 151, 3), (12, .ifCond .ne 6, 3), (15, .bipush (-2), 2), (17, .ireturn, 1), (18, .aload_n 0, 1), (19, .getfield 37, 3), (22, .getfield 124, 3), (25, .iload_n 1, 1), (26, .aaload, 1), (27, .astore_n 3, 1), (28, .aload_n 3, 1), (29, .aload_n 3, 1), (30, .iload_n 2, 1), (31, .invokevirtual 154, 3), (34, .iconst 1, 1), (35, .iadd, 1), (36, .invokevirtual 162, 3), (39, .istore 4, 2), (41, .iload 4, 2), (43, .iconst (-1), 1), (44, .if_icmp .ne 7, 3), (47, .iconst (-1), 1), (48, .goto 10, 3), (51, .iload 4, 2), (53, .iload_n 2, 1), (54, .isub, 1), (55, .invokestatic 169, 3), (58, .ireturn, 1)]
theorem dX11_step : ∀ q ∈ tX11_step, decode mX11_step.2.1 q.1 = .ok q.2 := by decide +kernel
def tX11_mark : IT := [(0, .aload_n 0, 1), (1, .iload_n 1, 1), (2, .iload_n 2, 1), (3, .invokevirtual 174, 3), (6, .ifCond .eq 15, 3), (9, .aload_n 0, 1), (10, .getfield 37, 3), (13, .iload_n 1, 1), (14, .iload_n 2, 1), (15, .invokevirtual 178, 3), (18, .goto 5, 3), (21, .bipush (-2), 2), (23, .ireturn, 1)]
theorem dX11_mark : ∀ q ∈ tX11_mark, decode mX11_mark.2.1 q.1 = .ok q.2 := by decide +kernel
def tX11_worth : IT := [(0, .aload_n 0, 1), (1, .iload_n 1, 1), (2, .iload_n 2, 1), (3, .invokevirtual 174, 3), (6, .ifCond .eq 15, 3), (9, .aload_n 0, 1), (10, .getfield 37, 3), (13, .iload_n 1, 1), (14, .iload_n 2, 1), (15, .invokevirtual 182, 3), (18, .goto 5, 3), (21, .bipush (-2), 2), (23, .ireturn, 1)]
theorem dX11_worth : ∀ q ∈ tX11_worth, decode mX11_worth.2.1 q.1 = .ok q.2 := by decide +kernel
def tX11_of : IT := [(0, .aload_n 0, 1), (1, .iload_n 1, 1), (2, .invokevirtual 184, 3), (5, .ifCond .ne 6, 3), (8, .bipush (-2), 2), (10, .ireturn, 1), (11, .aload_n 0, 1), (12, .invokevirtual 187, 3), (15, .getfield 191, 3), (18, .iload_n 1, 1), (19, .aaload, 1), (20, .astore_n 3, 1), (21, .iload_n 2, 1), (22, .tableswitch 82 0 6 #[42, 52, 57, 62, 67, 72, 77], 42), (64, .aload_n 3, 1), (65, .getfield 195, 3), (68, .aload_n 3, 1), (69, .getfield 198, 3), (72, .iadd, 1), (73, .ireturn, 1), (74, .aload_n 3, 1), (75, .getfield 195, 3), (78, .ireturn, 1), (79, .aload_n 3, 1), (80, .getfield 198, 3), (83, .ireturn, 1), (84, .aload_n 3, 1), (85, .getfield 201, 3), (88, .ireturn, 1), (89, .aload_n 3, 1), (90, .getfield 204, 3), (93, .ireturn, 1), (94, .aload_n 3, 1), (95, .getfield 207, 3), (98, .ireturn, 1), (99, .aload_n 3, 1), (100, .getfield 210, 3), (103, .ireturn, 1), (104, .bipush (-2), 2), (106, .ireturn, 1)]
theorem dX11_of : ∀ q ∈ tX11_of, decode mX11_of.2.1 q.1 = .ok q.2 := by decide +kernel
def tX11_holds : IT := [(0, .aload_n 0, 1), (1, .iload_n 1, 1), (2, .invokevirtual 213, 3), (5, .ifCond .eq 11, 3), (8, .aload_n 0, 1), (9, .iload_n 2, 1), (10, .invokevirtual 184, 3), (13, .ifCond .ne 6, 3), (16, .bipush (-2), 2), (18, .ireturn, 1), (19, .aload_n 0, 1), (20, .getfield 37, 3), (23, .getfield 104, 3), (26, .iload_n 1, 1), (27, .aload_n 0, 1), (28, .iload_n 2, 1), (29, .invokevirtual 216, 3), (32, .invokevirtual 220, 3), (35, .ifCond .eq 7, 3), (38, .iconst 1, 1), (39, .goto 4, 3), (42, .iconst 0, 1), (43, .ireturn, 1)]
theorem dX11_holds : ∀ q ∈ tX11_holds, decode mX11_holds.2.1 q.1 = .ok q.2 := by decide +kernel
def tX11_bonus : IT := [(0, .aload_n 0, 1), (1, .iload_n 1, 1), (2, .invokevirtual 213, 3), (5, .ifCond .eq 18, 3), (8, .aload_n 0, 1), (9, .getfield 37, 3), (12, .getfield 104, 3), (15, .getfield 224, 3), (18, .iload_n 1, 1), (19, .iaload, 1), (20, .goto 5, 3), (23, .bipush (-2), 2), (25, .ireturn, 1)]
theorem dX11_bonus : ∀ q ∈ tX11_bonus, decode mX11_bonus.2.1 q.1 = .ok q.2 := by decide +kernel
def tX11_place : IT := [(0, .aload_n 0, 1), (1, .getfield 85, 3), (4, .ifCond .eq 7, 3), (7, .iload_n 1, 1), (8, .ifCond .ge 6, 3), (11, .bipush (-2), 2), (13, .ireturn, 1), (14, .aload_n 0, 1), (15, .invokevirtual 187, 3), (18, .iload_n 1, 1), (19, .invokevirtual 227, 3), (22, .ireturn, 1)]
theorem dX11_place : ∀ q ∈ tX11_place, decode mX11_place.2.1 q.1 = .ok q.2 := by decide +kernel
def tX11_rank : IT := [(0, .aload_n 0, 1), (1, .iload_n 1, 1), (2, .invokevirtual 184, 3), (5, .ifCond .eq 14, 3), (8, .aload_n 0, 1), (9, .invokevirtual 187, 3), (12, .iload_n 1, 1), (13, .invokevirtual 230, 3), (16, .goto 5, 3), (19, .bipush (-2), 2), (21, .ireturn, 1)]
theorem dX11_rank : ∀ q ∈ tX11_rank, decode mX11_rank.2.1 q.1 = .ok q.2 := by decide +kernel
def tX11_leads : IT := [(0, .aload_n 0, 1), (1, .iload_n 1, 1), (2, .invokevirtual 120, 3), (5, .ifCond .eq 15, 3), (8, .aload_n 0, 1), (9, .getfield 37, 3), (12, .iload_n 1, 1), (13, .iconst 0, 1), (14, .invokevirtual 233, 3), (17, .goto 5, 3), (20, .bipush (-2), 2), (22, .ireturn, 1)]
theorem dX11_leads : ∀ q ∈ tX11_leads, decode mX11_leads.2.1 q.1 = .ok q.2 := by decide +kernel
def tX11_dream : IT := [(0, .aload_n 0, 1), (1, .getfield 85, 3), (4, .ifCond .ne 6, 3), (7, .bipush (-2), 2), (9, .ireturn, 1), (10, .iconst 0, 1), (11, .istore_n 1, 1), (12, .iconst 0, 1), (13, .istore_n 2, 1), (14, .iload_n 2, 1), (15, .aload_n 0, 1), (16, .getfield 37, 3), (19, .getfield 98, 3), (22, .if_icmp .ge 40, 3), (25, .aload_n 0, 1), (26, .getfield 37, 3), (29, .iload_n 2, 1), (30, .iconst 0, 1), (31, .invokevirtual 233, 3), (34, .istore_n 3, 1), (35, .iload_n 1, 1), (36, .iload_n 3, 1), (37, .iconst (-1), 1), (38, .if_icmp .ne 7, 3), (41, .iconst 0, 1), (42, .goto 12, 3), (45, .aload_n 0, 1), (46, .getfield 37, 3), (49, .iload_n 3, 1), (50, .iload_n 2, 1), (51, .invokevirtual 182, 3), (54, .iadd, 1), (55, .istore_n 1, 1), (56, .iinc 2 1, 3), (59, .goto (-45), 3), (62, .iload_n 1, 1), (63, .ireturn, 1)]
theorem dX11_dream : ∀ q ∈ tX11_dream, decode mX11_dream.2.1 q.1 = .ok q.2 := by decide +kernel
def tX11_need : IT := [(0, .aload_n 0, 1), (1, .iload_n 1, 1), (2, .invokevirtual 184, 3), (5, .ifCond .eq 13, 3), (8, .iload_n 2, 1), (9, .iconst 0, 1), (10, .ldc 236, 2), (12, .invokestatic 158, 3), (15, .ifCond .ne 6, 3), (18, .bipush (-2), 2), (20, .ireturn, 1), (21, .aload_n 0, 1), (22, .iload_n 1, 1), (23, .invokevirtual 216, 3), (26, .astore_n 3, 1), (27, .aload_n 0, 1), (28, .iload_n 1, 1), (29, .invokevirtual 237, 3), (32, .istore 4, 2), (34, .iconst 0, 1), (35, .istore 5, 2), (37, .iload 5, 2), (39, .iload 4, 2), (41, .if_icmp .gt 35, 3), (44, .aload_n 0, 1), (45, .iload_n 1, 1), (46, .aload_n 3, 1), (47, .iload 5, 2), (49, .invokevirtual 240, 3), (52, .aload_n 0, 1), (53, .getfield 37, 3), (56, .getfield 104, 3), (59, .aload_n 3, 1), (60, .iload_n 2, 1), (61, .invokevirtual 244, 3), (64, .ifCond .eq 6, 3), (67, .iload 5, 2), (69, .ireturn, 1), (70, .iinc 5 1, 3), (73, .goto (-36), 3), (76, .iconst (-1), 1), (77, .ireturn, 1)]
theorem dX11_need : ∀ q ∈ tX11_need, decode mX11_need.2.1 q.1 = .ok q.2 := by decide +kernel
def tX11_needIn : IT := [(0, .aload_n 0, 1), (1, .iload_n 1, 1), (2, .iload_n 2, 1), (3, .invokevirtual 174, 3), (6, .ifCond .eq 13, 3), (9, .iload_n 3, 1), (10, .iconst 0, 1), (11, .ldc 236, 2), (13, .invokestatic 158, 3), (16, .ifCond .ne 6, 3), (19, .bipush (-2), 2), (21, .ireturn, 1), (22, .aload_n 0, 1), (23, .iload_n 1, 1), (24, .invokevirtual 216, 3), (27, .astore 4, 2), (29, .aload_n 0, 1), (30, .getfield 37, 3), (33, .getfield 124, 3), (36, .iload_n 2, 1), (37, .aaload, 1), (38, .invokevirtual 165, 3), (41, .istore 5, 2), (43, .iconst 0, 1), (44, .istore 6, 2), (46, .iload 6, 2), (48, .iload 5, 2), (50, .if_icmp .gt 36, 3), (53, .aload 4, 2), (55, .iload_n 2, 1), (56, .iload 6, 2), (58, .invokevirtual 248, 3), (61, .aload_n 0, 1), (62, .getfield 37, 3), (65, .getfield 104, 3), (68, .aload 4, 2), (70, .iload_n 3, 1), (71, .invokevirtual 244, 3), (74, .ifCond .eq 6, 3), (77, .iload 6, 2), (79, .ireturn, 1), (80, .iinc 6 1, 3), (83, .goto (-37), 3), (86, .iconst (-1), 1), (87, .ireturn, 1)]
theorem dX11_needIn : ∀ q ∈ tX11_needIn, decode mX11_needIn.2.1 q.1 = .ok q.2 := by decide +kernel
def tX11_pass : IT := [(0, .aload_n 0, 1), (1, .iload_n 1, 1), (2, .iload_n 2, 1), (3, .invokevirtual 174, 3), (6, .ifCond .eq 16, 3), (9, .aload_n 0, 1), (10, .iload_n 3, 1), (11, .invokevirtual 184, 3), (14, .ifCond .eq 8, 3), (17, .iload_n 1, 1), (18, .iload_n 3, 1), (19, .if_icmp .ne 6, 3), (22, .bipush (-2), 2), (24, .ireturn, 1), (25, .aload_n 0, 1), (26, .invokevirtual 187, 3), (29, .astore 4, 2), (31, .aload 4, 2), (33, .iload_n 3, 1), (34, .invokevirtual 252, 3), (37, .istore 5, 2), (39, .aload_n 0, 1), (40, .getfield 37, 3), (43, .getfield 124, 3), (46, .iload_n 2, 1), (47, .aaload, 1), (48, .invokevirtual 165, 3), (51, .istore 6, 2), (53, .iconst 0, 1), (54, .istore 7, 2), (56, .iload 7, 2), (58, .iload 6, 2), (60, .if_icmp .gt 56, 3), (63, .aload 4, 2), (65, .getfield 191, 3), (68, .iload_n 1, 1), (69, .aaload, 1), (70, .iload_n 2, 1), (71, .iload 7, 2), (73, .invokevirtual 248, 3), (76, .aload_n 0, 1), (77, .getfield 37, 3), (80, .getfield 104, 3), (83, .aload 4, 2), (85, .getfield 191, 3), (88, .iload_n 1, 1), (89, .aaload, 1), (90, .iload 5, 2), (92, .invokevirtual 244, 3), (95, .ifCond .eq 15, 3), (98, .aload_n 0, 1), (99, .iload_n 1, 1), (100, .iload_n 3, 1), (101, .invokevirtual 255, 3), (104, .ifCond .eq 6, 3), (107, .iload 7, 2), (109, .ireturn, 1), (110, .iinc 7 1, 3), (113, .goto (-57), 3), (116, .iconst (-1), 1), (117, .ireturn, 1)]
theorem dX11_pass : ∀ q ∈ tX11_pass, decode mX11_pass.2.1 q.1 = .ok q.2 := by decide +kernel
def tX11_trained : IT := [(0, .aload_n 0, 1), (1, .iload_n 1, 1), (2, .iload_n 2, 1), (3, .invokevirtual 174, 3), (6, .ifCond .eq 14, 3), (9, .iload_n 3, 1), (10, .iconst 0, 1), (11, .sipush 999, 3), (14, .invokestatic 158, 3), (17, .ifCond .ne 6, 3), (20, .bipush (-2), 2), (22, .ireturn, 1), (23, .aload_n 0, 1), (24, .getfield 37, 3), (27, .iload_n 1, 1), (28, .iload_n 2, 1), (29, .iload_n 3, 1), (30, .invokevirtual 258, 3), (33, .ireturn, 1)]
theorem dX11_trained : ∀ q ∈ tX11_trained, decode mX11_trained.2.1 q.1 = .ok q.2 := by decide +kernel
def tX11_gains : IT := [(0, .aload_n 0, 1), (1, .iload_n 1, 1), (2, .iload_n 2, 1), (3, .invokevirtual 174, 3), (6, .ifCond .eq 12, 3), (9, .iload_n 3, 1), (10, .iconst 0, 1), (11, .iconst 1, 1), (12, .invokestatic 158, 3), (15, .ifCond .ne 6, 3), (18, .bipush (-2), 2), (20, .ireturn, 1), (21, .iload_n 1, 1), (22, .iload_n 2, 1), (23, .invokestatic 262, 3), (26, .istore 4, 2), (28, .iload_n 3, 1), (29, .ifCond .ne 16, 3), (32, .aload_n 0, 1), (33, .getfield 37, 3), (36, .getfield 265, 3), (39, .iload 4, 2), (41, .iaload, 1), (42, .goto 13, 3), (45, .aload_n 0, 1), (46, .getfield 37, 3), (49, .getfield 268, 3), (52, .iload 4, 2), (54, .iaload, 1), (55, .ireturn, 1)]
theorem dX11_gains : ∀ q ∈ tX11_gains, decode mX11_gains.2.1 q.1 = .ok q.2 := by decide +kernel
def tX11_pays : IT := [(0, .aload_n 0, 1), (1, .iload_n 1, 1), (2, .invokevirtual 184, 3), (5, .ifCond .eq 14, 3), (8, .iload_n 2, 1), (9, .iconst 1, 1), (10, .sipush 999, 3), (13, .invokestatic 158, 3), (16, .ifCond .ne 6, 3), (19, .bipush (-2), 2), (21, .ireturn, 1), (22, .iconst (-1), 1), (23, .istore_n 3, 1), (24, .iconst 0, 1), (25, .istore 4, 2), (27, .iconst 0, 1), (28, .istore 5, 2), (30, .iload 5, 2), (32, .aload_n 0, 1), (33, .getfield 37, 3), (36, .getfield 98, 3), (39, .if_icmp .ge 47, 3), (42, .aload_n 0, 1), (43, .getfield 37, 3), (46, .iload_n 1, 1), (47, .iload 5, 2), (49, .iload_n 2, 1), (50, .invokevirtual 271, 3), (53, .aload_n 0, 1), (54, .getfield 37, 3), (57, .iload_n 1, 1), (58, .iload 5, 2), (60, .invokevirtual 182, 3), (63, .isub, 1), (64, .istore 6, 2), (66, .iload 6, 2), (68, .iload 4, 2), (70, .if_icmp .le 10, 3), (73, .iload 6, 2), (75, .istore 4, 2), (77, .iload 5, 2), (79, .istore_n 3, 1), (80, .iinc 5 1, 3), (83, .goto (-53), 3), (86, .iload_n 3, 1), (87, .ireturn, 1)]
theorem dX11_pays : ∀ q ∈ tX11_pays, decode mX11_pays.2.1 q.1 = .ok q.2 := by decide +kernel
def tX11_spread : IT := [(0, .aload_n 0, 1), (1, .iload_n 1, 1), (2, .invokevirtual 184, 3), (5, .ifCond .eq 30, 3), (8, .iload_n 2, 1), (9, .iconst 0, 1), (10, .bipush 60, 2), (12, .invokestatic 158, 3), (15, .ifCond .eq 20, 3), (18, .iload_n 3, 1), (19, .iconst (-1), 1), (20, .aload_n 0, 1), (21, .getfield 37, 3), (24, .getfield 98, 3), (27, .iconst 1, 1), (28, .isub, 1), (29, .invokestatic 158, 3), (32, .ifCond .ne 6, 3), (35, .bipush (-2), 2), (37, .ireturn, 1), (38, .aload_n 0, 1), (39, .iload_n 1, 1), (40, .iload_n 2, 1), (41, .invokevirtual 274, 3), (44, .iload_n 3, 1), (45, .iconst (-1), 1), (46, .if_icmp .ne 14, 3), (49, .aload_n 0, 1), (50, .getfield 58, 3), (53, .iload_n 2, 1), (54, .invokevirtual 277, 3), (57, .goto 12, 3), (60, .aload_n 0, 1), (61, .getfield 58, 3), (64, .iload_n 3, 1), (65, .iload_n 2, 1), (66, .invokevirtual 280, 3), (69, .ireturn, 1)]
theorem dX11_spread : ∀ q ∈ tX11_spread, decode mX11_spread.2.1 q.1 = .ok q.2 := by decide +kernel
def tX11_hours : IT := [(0, .aload_n 0, 1), (1, .iload_n 1, 1), (2, .invokevirtual 184, 3), (5, .ifCond .eq 13, 3), (8, .iload_n 2, 1), (9, .iconst 0, 1), (10, .ldc 236, 2), (12, .invokestatic 158, 3), (15, .ifCond .ne 6, 3), (18, .bipush (-2), 2), (20, .ireturn, 1), (21, .aload_n 0, 1), (22, .iload_n 1, 1), (23, .bipush 60, 2), (25, .invokevirtual 274, 3), (28, .iconst 0, 1), (29, .istore_n 3, 1), (30, .iload_n 3, 1), (31, .bipush 60, 2), (33, .if_icmp .gt 23, 3), (36, .aload_n 0, 1), (37, .getfield 58, 3), (40, .iload_n 3, 1), (41, .invokevirtual 277, 3), (44, .iload_n 2, 1), (45, .if_icmp .lt 5, 3), (48, .iload_n 3, 1), (49, .ireturn, 1), (50, .iinc 3 1, 3), (53, .goto (-23), 3), (56, .iconst (-1), 1), (57, .ireturn, 1)]
theorem dX11_hours : ∀ q ∈ tX11_hours, decode mX11_hours.2.1 q.1 = .ok q.2 := by decide +kernel
def tX11_meet : IT := [(0, .aload_n 0, 1), (1, .getfield 85, 3), (4, .ifCond .eq 11, 3), (7, .iload_n 1, 1), (8, .ifCond .lt 7, 3), (11, .iload_n 2, 1), (12, .ifCond .ge 6, 3), (15, .bipush (-2), 2), (17, .ireturn, 1), (18, .aload_n 0, 1), (19, .iload_n 1, 1), (20, .invokevirtual 283, 3), (23, .iload_n 2, 1), (24, .invokevirtual 227, 3), (27, .ireturn, 1)]
theorem dX11_meet : ∀ q ∈ tX11_meet, decode mX11_meet.2.1 q.1 = .ok q.2 := by decide +kernel
def tX11_met : IT := [(0, .aload_n 0, 1), (1, .iload_n 2, 1), (2, .invokevirtual 184, 3), (5, .ifCond .eq 7, 3), (8, .iload_n 1, 1), (9, .ifCond .ge 6, 3), (12, .bipush (-2), 2), (14, .ireturn, 1), (15, .aload_n 0, 1), (16, .iload_n 1, 1), (17, .invokevirtual 283, 3), (20, .iload_n 2, 1), (21, .invokevirtual 252, 3), (24, .ireturn, 1)]
theorem dX11_met : ∀ q ∈ tX11_met, decode mX11_met.2.1 q.1 = .ok q.2 := by decide +kernel
def tX11_odds : IT := [(0, .aload_n 0, 1), (1, .iload_n 3, 1), (2, .invokevirtual 184, 3), (5, .ifCond .eq 26, 3), (8, .iload_n 1, 1), (9, .ifCond .lt 22, 3), (12, .iload_n 2, 1), (13, .iconst 1, 1), (14, .bipush 40, 2), (16, .invokestatic 158, 3), (19, .ifCond .eq 12, 3), (22, .iload_n 1, 1), (23, .ldc_w 287, 3), (26, .iload_n 2, 1), (27, .isub, 1), (28, .if_icmp .le 6, 3), (31, .bipush (-2), 2), (33, .ireturn, 1), (34, .iconst 0, 1), (35, .istore 4, 2), (37, .iconst 0, 1), (38, .istore 5, 2), (40, .iload 5, 2), (42, .iload_n 2, 1), (43, .if_icmp .ge 34, 3), (46, .iload 4, 2), (48, .aload_n 0, 1), (49, .iload_n 1, 1), (50, .iload 5, 2), (52, .iadd, 1), (53, .invokevirtual 283, 3), (56, .iload_n 3, 1), (57, .invokevirtual 230, 3), (60, .ifCond .ne 7, 3), (63, .iconst 1, 1), (64, .goto 4, 3), (67, .iconst 0, 1), (68, .iadd, 1), (69, .istore 4, 2), (71, .iinc 5 1, 3), (74, .goto (-34), 3), (77, .iload 4, 2), (79, .ireturn, 1)]
theorem dX11_odds : ∀ q ∈ tX11_odds, decode mX11_odds.2.1 q.1 = .ok q.2 := by decide +kernel
def tX11_sets : IT := [(0, .aload_n 0, 1), (1, .iload_n 1, 1), (2, .iload_n 2, 1), (3, .invokevirtual 174, 3), (6, .ifCond .eq 13, 3), (9, .iload_n 3, 1), (10, .iconst (-1), 1), (11, .ldc 236, 2), (13, .invokestatic 158, 3), (16, .ifCond .ne 6, 3), (19, .bipush (-2), 2), (21, .ireturn, 1), (22, .aload_n 0, 1), (23, .iload_n 1, 1), (24, .iload_n 2, 1), (25, .invokestatic 262, 3), (28, .iload_n 3, 1), (29, .invokevirtual 288, 3), (32, .ireturn, 1)]
theorem dX11_sets : ∀ q ∈ tX11_sets, decode mX11_sets.2.1 q.1 = .ok q.2 := by decide +kernel
def tX11_athlete : IT := [(0, .aload_n 0, 1), (1, .getfield 85, 3), (4, .ifCond .ne 6, 3), (7, .bipush (-2), 2), (9, .ireturn, 1), (10, .aload_n 0, 1), (11, .getfield 37, 3), (14, .getfield 101, 3), (17, .bipush 8, 2), (19, .if_icmp .lt 6, 3), (22, .bipush (-5), 2), (24, .ireturn, 1), (25, .aload_n 0, 1), (26, .getfield 30, 3), (29, .iconst 1, 1), (30, .iconst 0, 1), (31, .iconst 0, 1), (32, .iconst 0, 1), (33, .invokevirtual 291, 3), (36, .aload_n 0, 1), (37, .getfield 37, 3), (40, .invokevirtual 295, 3), (43, .ireturn, 1)]
theorem dX11_athlete : ∀ q ∈ tX11_athlete, decode mX11_athlete.2.1 q.1 = .ok q.2 := by decide +kernel
def tX11_gain : IT := [(0, .aload_n 0, 1), (1, .iload_n 1, 1), (2, .iload_n 2, 1), (3, .invokevirtual 174, 3), (6, .ifCond .eq 22, 3), (9, .iload_n 3, 1), (10, .invokestatic 151, 3), (13, .ifCond .eq 15, 3), (16, .iload 4, 2), (18, .iconst 1, 1), (19, .sipush 999, 3), (22, .invokestatic 158, 3), (25, .ifCond .ne 6, 3), (28, .bipush (-2), 2), (30, .ireturn, 1), (31, .iload_n 1, 1), (32, .iload_n 2, 1), (33, .invokestatic 262, 3), (36, .istore 5, 2), (38, .aload_n 0, 1), (39, .getfield 37, 3), (42, .getfield 265, 3), (45, .iload 5, 2), (47, .iaload, 1), (48, .istore 6, 2), (50, .iload 6, 2), (52, .iload_n 3, 1), (53, .if_icmp .ne 18, 3), (56, .aload_n 0, 1), (57, .getfield 37, 3), (60, .getfield 268, 3), (63, .iload 5, 2), (65, .iaload, 1), (66, .iload 4, 2), (68, .if_icmp .eq 48, 3), (71, .aload_n 0, 1), (72, .getfield 30, 3), (75, .iconst 2, 1), (76, .iload 5, 2), (78, .iload 6, 2), (80, .aload_n 0, 1), (81, .getfield 37, 3), (84, .getfield 268, 3), (87, .iload 5, 2), (89, .iaload, 1), (90, .invokevirtual 291, 3), (93, .aload_n 0, 1), (94, .getfield 37, 3), (97, .getfield 265, 3), (100, .iload 5, 2), (102, .iload_n 3, 1), (103, .iastore, 1), (104, .aload_n 0, 1), (105, .getfield 37, 3), (108, .getfield 268, 3), (111, .iload 5, 2), (113, .iload 4, 2), (115, .iastore, 1), (116, .iload 6, 2), (118, .ireturn, 1)]
theorem dX11_gain : ∀ q ∈ tX11_gain, decode mX11_gain.2.1 q.1 = .ok q.2 := by decide +kernel
def tX11_trains : IT := [(0, .aload_n 0, 1), (1, .iload_n 1, 1), (2, .iload_n 2, 1), (3, .invokevirtual 174, 3), (6, .ifCond .eq 14, 3), (9, .iload_n 3, 1), (10, .iconst 0, 1), (11, .sipush 999, 3), (14, .invokestatic 158, 3), (17, .ifCond .ne 6, 3), (20, .bipush (-2), 2), (22, .ireturn, 1), (23, .aload_n 0, 1), (24, .getfield 37, 3), (27, .iload_n 1, 1), (28, .iload_n 2, 1), (29, .iload_n 3, 1), (30, .invokevirtual 258, 3), (33, .istore 4, 2), (35, .aload_n 0, 1), (36, .iload_n 1, 1), (37, .iload_n 2, 1), (38, .invokestatic 262, 3), (41, .iload 4, 2), (43, .invokevirtual 288, 3), (46, .pop, 1), (47, .iload 4, 2), (49, .ireturn, 1)]
theorem dX11_trains : ∀ q ∈ tX11_trains, decode mX11_trains.2.1 q.1 = .ok q.2 := by decide +kernel
def tX11_tie : IT := [(0, .aload_n 0, 1), (1, .getfield 85, 3), (4, .ifCond .eq 12, 3), (7, .iload_n 1, 1), (8, .iconst 0, 1), (9, .iconst 2, 1), (10, .invokestatic 158, 3), (13, .ifCond .ne 6, 3), (16, .bipush (-2), 2), (18, .ireturn, 1), (19, .aload_n 0, 1), (20, .getfield 37, 3), (23, .getfield 113, 3), (26, .istore_n 2, 1), (27, .iload_n 2, 1), (28, .iload_n 1, 1), (29, .if_icmp .eq 22, 3), (32, .aload_n 0, 1), (33, .getfield 30, 3), (36, .iconst 3, 1), (37, .iconst 0, 1), (38, .iload_n 2, 1), (39, .iconst 0, 1), (40, .invokevirtual 291, 3), (43, .aload_n 0, 1), (44, .getfield 37, 3), (47, .iload_n 1, 1), (48, .putfield 113, 3), (51, .iload_n 2, 1), (52, .ireturn, 1)]
theorem dX11_tie : ∀ q ∈ tX11_tie, decode mX11_tie.2.1 q.1 = .ok q.2 := by decide +kernel
def tX11_undo : IT := [(0, .aload_n 0, 1), (1, .getfield 30, 3), (4, .aload_n 0, 1), (5, .getfield 37, 3), (8, .invokevirtual 298, 3), (11, .ifCond .eq 13, 3), (14, .aload_n 0, 1), (15, .getfield 30, 3), (18, .getfield 116, 3), (21, .goto 4, 3), (24, .iconst (-1), 1), (25, .ireturn, 1)]
theorem dX11_undo : ∀ q ∈ tX11_undo, decode mX11_undo.2.1 q.1 = .ok q.2 := by decide +kernel
def tX11_tell : IT := [(0, .aload_n 0, 1), (1, .getfield 85, 3), (4, .ifCond .ne 6, 3), (7, .bipush (-2), 2), (9, .ireturn, 1), (10, .aload_n 0, 1), (11, .invokevirtual 187, 3), (14, .astore_n 1, 1), (15, .aload_n 0, 1), (16, .getfield 16, 3), (19, .invokevirtual 302, 3), (22, .iconst 0, 1), (23, .istore_n 2, 1), (24, .iload_n 2, 1), (25, .aload_n 0, 1), (26, .getfield 37, 3), (29, .getfield 101, 3), (32, .if_icmp .ge 53, 3), (35, .aload_n 1, 1), (36, .iload_n 2, 1), (37, .invokevirtual 227, 3), (40, .istore_n 3, 1), (41, .aload_n 0, 1), (42, .getfield 16, 3), (45, .iload_n 3, 1), (46, .invokevirtual 303, 3), (49, .aload_n 0, 1), (50, .getfield 16, 3), (53, .bipush 32, 2), (55, .invokevirtual 306, 3), (58, .aload_n 0, 1), (59, .getfield 16, 3), (62, .aload_n 1, 1), (63, .iload_n 3, 1), (64, .invokevirtual 252, 3), (67, .invokevirtual 303, 3), (70, .aload_n 0, 1), (71, .getfield 16, 3), (74, .bipush 10, 2), (76, .invokevirtual 306, 3), (79, .iinc 2 1, 3), (82, .goto (-58), 3), (85, .aload_n 0, 1), (86, .getfield 16, 3), (89, .getfield 117, 3), (92, .ireturn, 1)]
theorem dX11_tell : ∀ q ∈ tX11_tell, decode mX11_tell.2.1 q.1 = .ok q.2 := by decide +kernel
def tX11_card : IT := [(0, .aload_n 0, 1), (1, .iload_n 1, 1), (2, .invokevirtual 184, 3), (5, .ifCond .ne 6, 3), (8, .bipush (-2), 2), (10, .ireturn, 1), (11, .aload_n 0, 1), (12, .getfield 16, 3), (15, .invokevirtual 302, 3), (18, .iconst 0, 1), (19, .istore_n 2, 1), (20, .iload_n 2, 1), (21, .aload_n 0, 1), (22, .getfield 37, 3), (25, .getfield 98, 3), (28, .if_icmp .ge 63, 3), (31, .iload_n 2, 1), (32, .ifCond .le 12, 3), (35, .aload_n 0, 1), (36, .getfield 16, 3), (39, .bipush 32, 2), (41, .invokevirtual 306, 3), (44, .aload_n 0, 1), (45, .getfield 37, 3), (48, .iload_n 1, 1), (49, .iload_n 2, 1), (50, .invokevirtual 178, 3), (53, .iconst (-1), 1), (54, .if_icmp .ne 15, 3), (57, .aload_n 0, 1), (58, .getfield 16, 3), (61, .bipush 45, 2), (63, .invokevirtual 306, 3), (66, .goto 19, 3), (69, .aload_n 0, 1), (70, .getfield 16, 3), (73, .aload_n 0, 1), (74, .getfield 37, 3), (77, .iload_n 1, 1), (78, .iload_n 2, 1), (79, .invokevirtual 182, 3), (82, .invokevirtual 303, 3), (85, .iinc 2 1, 3), (88, .goto (-68), 3), (91, .aload_n 0, 1), (92, .getfield 16, 3), (95, .getfield 117, 3), (98, .ireturn, 1)]
theorem dX11_card : ∀ q ∈ tX11_card, decode mX11_card.2.1 q.1 = .ok q.2 := by decide +kernel
def tX11_octet : IT := [(0, .iload_n 1, 1), (1, .ifCond .lt 26, 3), (4, .iload_n 1, 1), (5, .aload_n 0, 1), (6, .getfield 16, 3), (9, .getfield 117, 3), (12, .if_icmp .ge 15, 3), (15, .aload_n 0, 1), (16, .getfield 16, 3), (19, .getfield 308, 3), (22, .iload_n 1, 1), (23, .baload, 1), (24, .goto 4, 3), (27, .iconst (-1), 1), (28, .ireturn, 1)]
theorem dX11_octet : ∀ q ∈ tX11_octet, decode mX11_octet.2.1 q.1 = .ok q.2 := by decide +kernel
def tX11_kth : IT := [(0, .aload_n 0, 1), (1, .iload_n 1, 1), (2, .invokevirtual 120, 3), (5, .ifCond .eq 19, 3), (8, .iload_n 2, 1), (9, .ifCond .lt 15, 3), (12, .aload_n 0, 1), (13, .getfield 37, 3), (16, .iload_n 1, 1), (17, .iload_n 2, 1), (18, .invokevirtual 233, 3), (21, .goto 5, 3), (24, .bipush (-2), 2), (26, .ireturn, 1)]
theorem dX11_kth : ∀ q ∈ tX11_kth, decode mX11_kth.2.1 q.1 = .ok q.2 := by decide +kernel
def tX11_behind : IT := [(0, .aload_n 0, 1), (1, .iload_n 1, 1), (2, .invokevirtual 184, 3), (5, .ifCond .ne 6, 3), (8, .bipush (-2), 2), (10, .ireturn, 1), (11, .aload_n 0, 1), (12, .invokevirtual 187, 3), (15, .astore_n 2, 1), (16, .iconst (-1), 1), (17, .istore_n 3, 1), (18, .iconst 0, 1), (19, .istore 4, 2), (21, .iconst 0, 1), (22, .istore 5, 2), (24, .iload 5, 2), (26, .aload_n 0, 1), (27, .getfield 37, 3), (30, .getfield 98, 3), (33, .if_icmp .ge 44, 3), (36, .aload_n 2, 1), (37, .iload 5, 2), (39, .invokevirtual 311, 3), (42, .aload_n 2, 1), (43, .getfield 191, 3), (46, .iload_n 1, 1), (47, .aaload, 1), (48, .getfield 314, 3), (51, .iload 5, 2), (53, .iaload, 1), (54, .isub, 1), (55, .istore 6, 2), (57, .iload 6, 2), (59, .iload 4, 2), (61, .if_icmp .le 10, 3), (64, .iload 6, 2), (66, .istore 4, 2), (68, .iload 5, 2), (70, .istore_n 3, 1), (71, .iinc 5 1, 3), (74, .goto (-50), 3), (77, .iload_n 3, 1), (78, .ireturn, 1)]
theorem dX11_behind : ∀ q ∈ tX11_behind, decode mX11_behind.2.1 q.1 = .ok q.2 := by decide +kernel
def tX11_hour : IT := [(0, .aload_n 0, 1), (1, .iload_n 1, 1), (2, .iload_n 2, 1), (3, .invokevirtual 174, 3), (6, .ifCond .eq 14, 3), (9, .iload_n 3, 1), (10, .iconst 1, 1), (11, .sipush 999, 3), (14, .invokestatic 158, 3), (17, .ifCond .ne 6, 3), (20, .bipush (-2), 2), (22, .ireturn, 1), (23, .aload_n 0, 1), (24, .getfield 37, 3), (27, .iload_n 1, 1), (28, .iload_n 2, 1), (29, .iload_n 3, 1), (30, .invokevirtual 271, 3), (33, .aload_n 0, 1), (34, .getfield 37, 3), (37, .iload_n 1, 1), (38, .iload_n 2, 1), (39, .iload_n 3, 1), (40, .iconst 1, 1), (41, .isub, 1), (42, .invokevirtual 271, 3), (45, .isub, 1), (46, .ireturn, 1)]
theorem dX11_hour : ∀ q ∈ tX11_hour, decode mX11_hour.2.1 q.1 = .ok q.2 := by decide +kernel
def tX11_squad : IT := [(0, .aload_n 0, 1), (1, .getfield 85, 3), (4, .ifCond .eq 30, 3), (7, .iload_n 1, 1), (8, .iconst 0, 1), (9, .bipush 60, 2), (11, .invokestatic 158, 3), (14, .ifCond .eq 20, 3), (17, .iload_n 2, 1), (18, .iconst (-1), 1), (19, .aload_n 0, 1), (20, .getfield 37, 3), (23, .getfield 101, 3), (26, .iconst 1, 1), (27, .isub, 1), (28, .invokestatic 158, 3), (31, .ifCond .ne 6, 3), (34, .bipush (-2), 2), (36, .ireturn, 1), (37, .aload_n 0, 1), (38, .iload_n 1, 1), (39, .invokevirtual 317, 3), (42, .iload_n 2, 1), (43, .iconst (-1), 1), (44, .if_icmp .ne 14, 3), (47, .aload_n 0, 1), (48, .getfield 62, 3), (51, .iload_n 1, 1), (52, .invokevirtual 277, 3), (55, .goto 12, 3), (58, .aload_n 0, 1), (59, .getfield 62, 3), (62, .iload_n 2, 1), (63, .iload_n 1, 1), (64, .invokevirtual 280, 3), (67, .ireturn, 1)]
theorem dX11_squad : ∀ q ∈ tX11_squad, decode mX11_squad.2.1 q.1 = .ok q.2 := by decide +kernel
def tX11_close : IT := [(0, .aload_n 0, 1), (1, .getfield 85, 3), (4, .ifCond .ne 6, 3), (7, .bipush (-2), 2), (9, .ireturn, 1), (10, .aload_n 0, 1), (11, .invokevirtual 187, 3), (14, .astore_n 1, 1), (15, .iconst (-1), 1), (16, .istore_n 2, 1), (17, .iconst 0, 1), (18, .istore_n 3, 1), (19, .iconst 0, 1), (20, .istore 4, 2), (22, .iload 4, 2), (24, .aload_n 0, 1), (25, .getfield 37, 3), (28, .getfield 101, 3), (31, .if_icmp .ge 74, 3), (34, .iload 4, 2), (36, .iconst 1, 1), (37, .iadd, 1), (38, .istore 5, 2), (40, .iload 5, 2), (42, .aload_n 0, 1), (43, .getfield 37, 3), (46, .getfield 101, 3), (49, .if_icmp .ge 50, 3), (52, .aload_n 1, 1), (53, .iload 4, 2), (55, .invokevirtual 252, 3), (58, .aload_n 1, 1), (59, .iload 5, 2), (61, .invokevirtual 252, 3), (64, .isub, 1), (65, .invokestatic 169, 3), (68, .istore 6, 2), (70, .iload_n 2, 1), (71, .iconst (-1), 1), (72, .if_icmp .eq 9, 3), (75, .iload 6, 2), (77, .iload_n 3, 1), (78, .if_icmp .ge 15, 3), (81, .iload 6, 2), (83, .istore_n 3, 1), (84, .bipush 10, 2), (86, .iload 4, 2), (88, .imul, 1), (89, .iload 5, 2), (91, .iadd, 1), (92, .istore_n 2, 1), (93, .iinc 5 1, 3), (96, .goto (-56), 3), (99, .iinc 4 1, 3), (102, .goto (-80), 3), (105, .iload_n 2, 1), (106, .ireturn, 1)]
theorem dX11_close : ∀ q ∈ tX11_close, decode mX11_close.2.1 q.1 = .ok q.2 := by decide +kernel
def tX11_team : IT := [(0, .aload_n 0, 1), (1, .getfield 85, 3), (4, .ifCond .eq 15, 3), (7, .iload_n 1, 1), (8, .aload_n 0, 1), (9, .getfield 37, 3), (12, .getfield 101, 3), (15, .ishr, 1), (16, .ifCond .eq 6, 3), (19, .bipush (-2), 2), (21, .ireturn, 1), (22, .aload_n 0, 1), (23, .invokevirtual 187, 3), (26, .astore_n 2, 1), (27, .iconst 0, 1), (28, .istore_n 3, 1), (29, .iconst 0, 1), (30, .istore 4, 2), (32, .iload 4, 2), (34, .aload_n 0, 1), (35, .getfield 37, 3), (38, .getfield 101, 3), (41, .if_icmp .ge 32, 3), (44, .iload_n 3, 1), (45, .iload_n 1, 1), (46, .iload 4, 2), (48, .ishr, 1), (49, .iconst 1, 1), (50, .iand, 1), (51, .iconst 1, 1), (52, .if_icmp .ne 12, 3), (55, .aload_n 2, 1), (56, .iload 4, 2), (58, .invokevirtual 252, 3), (61, .goto 4, 3), (64, .iconst 0, 1), (65, .iadd, 1), (66, .istore_n 3, 1), (67, .iinc 4 1, 3), (70, .goto (-38), 3), (73, .iload_n 3, 1), (74, .ireturn, 1)]
theorem dX11_team : ∀ q ∈ tX11_team, decode mX11_team.2.1 q.1 = .ok q.2 := by decide +kernel
def tX11_kinds : IT := [(0, .aload_n 0, 1), (1, .iload_n 1, 1), (2, .invokevirtual 120, 3), (5, .ifCond .eq 30, 3), (8, .iload_n 2, 1), (9, .invokestatic 151, 3), (12, .ifCond .eq 23, 3), (15, .iload_n 3, 1), (16, .invokestatic 151, 3), (19, .ifCond .eq 16, 3), (22, .iload_n 3, 1), (23, .iload_n 2, 1), (24, .isub, 1), (25, .iconst 0, 1), (26, .sipush 2000, 3), (29, .invokestatic 158, 3), (32, .ifCond .ne 6, 3), (35, .bipush (-2), 2), (37, .ireturn, 1), (38, .aload_n 0, 1), (39, .getfield 37, 3), (42, .getfield 124, 3), (45, .iload_n 1, 1), (46, .aaload, 1), (47, .astore 4, 2), (49, .iconst 1, 1), (50, .istore 5, 2), (52, .aload 4, 2), (54, .iload_n 2, 1), (55, .invokevirtual 154, 3), (58, .istore 6, 2), (60, .iload_n 2, 1), (61, .iconst 1, 1), (62, .iadd, 1), (63, .istore 7, 2), (65, .iload 7, 2), (67, .iload_n 3, 1), (68, .if_icmp .gt 39, 3), (71, .aload 4, 2), (73, .iload 7, 2), (75, .invokevirtual 154, 3), (78, .istore 8, 2), (80, .iload 5, 2), (82, .iload 8, 2), (84, .iload 6, 2), (86, .if_icmp .eq 7, 3), (89, .iconst 1, 1), (90, .goto 4, 3), (93, .iconst 0, 1), (94, .iadd, 1), (95, .istore 5, 2), (97, .iload 8, 2), (99, .istore 6, 2), (101, .iinc 7 1, 3), (104, .goto (-39), 3), (107, .iload 5, 2), (109, .ireturn, 1)]
theorem dX11_kinds : ∀ q ∈ tX11_kinds, decode mX11_kinds.2.1 q.1 = .ok q.2 := by decide +kernel
def tX11_lent : IT := [(0, .aload_n 0, 1), (1, .iload_n 1, 1), (2, .iload_n 2, 1), (3, .invokevirtual 174, 3), (6, .ifCond .eq 11, 3), (9, .aload_n 0, 1), (10, .iload_n 3, 1), (11, .invokevirtual 184, 3), (14, .ifCond .ne 6, 3), (17, .bipush (-2), 2), (19, .ireturn, 1), (20, .aload_n 0, 1), (21, .iload_n 1, 1), (22, .invokevirtual 216, 3), (25, .astore 4, 2), (27, .aload 4, 2), (29, .getfield 314, 3), (32, .iload_n 2, 1), (33, .aload_n 0, 1), (34, .getfield 37, 3), (37, .iload_n 3, 1), (38, .iload_n 2, 1), (39, .invokevirtual 182, 3), (42, .iastore, 1), (43, .aload 4, 2), (45, .getfield 320, 3), (48, .iload_n 2, 1), (49, .aload_n 0, 1), (50, .getfield 37, 3), (53, .iload_n 3, 1), (54, .iload_n 2, 1), (55, .invokevirtual 178, 3), (58, .iconst (-1), 1), (59, .if_icmp .eq 7, 3), (62, .iconst 1, 1), (63, .goto 4, 3), (66, .iconst 0, 1), (67, .bastore, 1), (68, .aload 4, 2), (70, .invokevirtual 324, 3), (73, .aload_n 0, 1), (74, .getfield 37, 3), (77, .getfield 104, 3), (80, .aload 4, 2), (82, .invokevirtual 327, 3), (85, .aload 4, 2), (87, .getfield 195, 3), (90, .aload 4, 2), (92, .getfield 198, 3), (95, .iadd, 1), (96, .ireturn, 1)]
theorem dX11_lent : ∀ q ∈ tX11_lent, decode mX11_lent.2.1 q.1 = .ok q.2 := by decide +kernel
def tX11_even : IT := [(0, .aload_n 0, 1), (1, .getfield 85, 3), (4, .ifCond .eq 13, 3), (7, .iload_n 1, 1), (8, .iconst 0, 1), (9, .ldc 236, 2), (11, .invokestatic 158, 3), (14, .ifCond .ne 6, 3), (17, .bipush (-2), 2), (19, .ireturn, 1), (20, .iconst 0, 1), (21, .istore_n 2, 1), (22, .iload_n 2, 1), (23, .aload_n 0, 1), (24, .getfield 37, 3), (27, .getfield 98, 3), (30, .if_icmp .ge 27, 3), (33, .aload_n 0, 1), (34, .getfield 65, 3), (37, .iload_n 2, 1), (38, .aload_n 0, 1), (39, .getfield 37, 3), (42, .getfield 124, 3), (45, .iload_n 2, 1), (46, .aaload, 1), (47, .invokevirtual 165, 3), (50, .iastore, 1), (51, .iinc 2 1, 3), (54, .goto (-32), 3), (57, .iconst 0, 1), (58, .istore_n 2, 1), (59, .iload_n 2, 1), (60, .sipush 2000, 3), (63, .if_icmp .gt 20, 3), (66, .aload_n 0, 1), (67, .iload_n 2, 1), (68, .invokevirtual 331, 3), (71, .iload_n 1, 1), (72, .if_icmp .lt 5, 3), (75, .iload_n 2, 1), (76, .ireturn, 1), (77, .iinc 2 1, 3), (80, .goto (-21), 3), (83, .iconst (-1), 1), (84, .ireturn, 1)]
theorem dX11_even : ∀ q ∈ tX11_even, decode mX11_even.2.1 q.1 = .ok q.2 := by decide +kernel
def tX11_append : IT := [(0, .bipush 24, 2), (2, .istore_n 2, 1), (3, .iload_n 2, 1), (4, .ifCond .lt 42, 3), (7, .aload_n 0, 1), (8, .getfield 69, 3), (11, .sipush 1200, 3), (14, .if_icmp .ge 26, 3), (17, .aload_n 0, 1), (18, .getfield 9, 3), (21, .aload_n 0, 1), (22, .getfield 69, 3), (25, .iload_n 1, 1), (26, .iload_n 2, 1), (27, .ishr, 1), (28, .i2b, 1), (29, .bastore, 1), (30, .aload_n 0, 1), (31, .dup, 1), (32, .getfield 69, 3), (35, .iconst 1, 1), (36, .iadd, 1), (37, .putfield 69, 3), (40, .iinc 2 (-8), 3), (43, .goto (-40), 3), (46, .return_, 1)]
theorem dX11_append : ∀ q ∈ tX11_append, decode mX11_append.2.1 q.1 = .ok q.2 := by decide +kernel
def tX11_hasEvent : IT := [(0, .iload_n 1, 1), (1, .ifCond .lt 18, 3), (4, .iload_n 1, 1), (5, .aload_n 0, 1), (6, .getfield 37, 3), (9, .getfield 98, 3), (12, .if_icmp .ge 7, 3), (15, .iconst 1, 1), (16, .goto 4, 3), (19, .iconst 0, 1), (20, .ireturn, 1)]
theorem dX11_hasEvent : ∀ q ∈ tX11_hasEvent, decode mX11_hasEvent.2.1 q.1 = .ok q.2 := by decide +kernel
def tX11_hasAthlete : IT := [(0, .iload_n 1, 1), (1, .ifCond .lt 18, 3), (4, .iload_n 1, 1), (5, .aload_n 0, 1), (6, .getfield 37, 3), (9, .getfield 101, 3), (12, .if_icmp .ge 7, 3), (15, .iconst 1, 1), (16, .goto 4, 3), (19, .iconst 0, 1), (20, .ireturn, 1)]
theorem dX11_hasAthlete : ∀ q ∈ tX11_hasAthlete, decode mX11_hasAthlete.2.1 q.1 = .ok q.2 := by decide +kernel
def tX11_hasCell : IT := [(0, .aload_n 0, 1), (1, .iload_n 1, 1), (2, .invokevirtual 184, 3), (5, .ifCond .eq 15, 3), (8, .aload_n 0, 1), (9, .iload_n 2, 1), (10, .invokevirtual 120, 3), (13, .ifCond .eq 7, 3), (16, .iconst 1, 1), (17, .goto 4, 3), (20, .iconst 0, 1), (21, .ireturn, 1)]
theorem dX11_hasCell : ∀ q ∈ tX11_hasCell, decode mX11_hasCell.2.1 q.1 = .ok q.2 := by decide +kernel
def tX11_hasBonus : IT := [(0, .iload_n 1, 1), (1, .ifCond .lt 21, 3), (4, .iload_n 1, 1), (5, .aload_n 0, 1), (6, .getfield 37, 3), (9, .getfield 104, 3), (12, .getfield 108, 3), (15, .if_icmp .ge 7, 3), (18, .iconst 1, 1), (19, .goto 4, 3), (22, .iconst 0, 1), (23, .ireturn, 1)]
theorem dX11_hasBonus : ∀ q ∈ tX11_hasBonus, decode mX11_hasBonus.2.1 q.1 = .ok q.2 := by decide +kernel
def tX11_isMark : IT := [(0, .iload_n 0, 1), (1, .iconst 0, 1), (2, .ldc 236, 2), (4, .invokestatic 158, 3), (7, .ireturn, 1)]
theorem dX11_isMark : ∀ q ∈ tX11_isMark, decode mX11_isMark.2.1 q.1 = .ok q.2 := by decide +kernel
def tX11_isWithin : IT := [(0, .iload_n 0, 1), (1, .iload_n 1, 1), (2, .if_icmp .lt 12, 3), (5, .iload_n 0, 1), (6, .iload_n 2, 1), (7, .if_icmp .gt 7, 3), (10, .iconst 1, 1), (11, .goto 4, 3), (14, .iconst 0, 1), (15, .ireturn, 1)]
theorem dX11_isWithin : ∀ q ∈ tX11_isWithin, decode mX11_isWithin.2.1 q.1 = .ok q.2 := by decide +kernel
def tX11_cellOf : IT := [(0, .iload_n 0, 1), (1, .bipush 10, 2), (3, .imul, 1), (4, .iload_n 1, 1), (5, .iadd, 1), (6, .ireturn, 1)]
theorem dX11_cellOf : ∀ q ∈ tX11_cellOf, decode mX11_cellOf.2.1 q.1 = .ok q.2 := by decide +kernel
def tX11_scoreNow : IT := [(0, .aload_n 0, 1), (1, .getfield 44, 3), (4, .aload_n 0, 1), (5, .getfield 37, 3), (8, .aload_n 0, 1), (9, .getfield 37, 3), (12, .getfield 334, 3), (15, .iload_n 1, 1), (16, .invokevirtual 337, 3), (19, .aload_n 0, 1), (20, .getfield 44, 3), (23, .areturn, 1)]
theorem dX11_scoreNow : ∀ q ∈ tX11_scoreNow, decode mX11_scoreNow.2.1 q.1 = .ok q.2 := by decide +kernel
def tX11_standingsNow : IT := [(0, .aload_n 0, 1), (1, .getfield 51, 3), (4, .aload_n 0, 1), (5, .getfield 37, 3), (8, .aload_n 0, 1), (9, .getfield 37, 3), (12, .getfield 334, 3), (15, .invokevirtual 341, 3), (18, .aload_n 0, 1), (19, .getfield 51, 3), (22, .areturn, 1)]
theorem dX11_standingsNow : ∀ q ∈ tX11_standingsNow, decode mX11_standingsNow.2.1 q.1 = .ok q.2 := by decide +kernel
def tX11_standingsBy : IT := [(0, .aload_n 0, 1), (1, .getfield 51, 3), (4, .aload_n 0, 1), (5, .getfield 37, 3), (8, .iload_n 1, 1), (9, .invokevirtual 344, 3), (12, .aload_n 0, 1), (13, .getfield 51, 3), (16, .areturn, 1)]
theorem dX11_standingsBy : ∀ q ∈ tX11_standingsBy, decode mX11_standingsBy.2.1 q.1 = .ok q.2 := by decide +kernel
def tX11_isAheadNow : IT := [(0, .aload_n 0, 1), (1, .getfield 37, 3), (4, .getfield 104, 3), (7, .aload_n 0, 1), (8, .getfield 51, 3), (11, .getfield 191, 3), (14, .iload_n 1, 1), (15, .aaload, 1), (16, .invokevirtual 327, 3), (19, .aload_n 0, 1), (20, .getfield 51, 3), (23, .invokevirtual 348, 3), (26, .aload_n 0, 1), (27, .getfield 51, 3), (30, .iload_n 1, 1), (31, .iload_n 2, 1), (32, .invokevirtual 351, 3), (35, .ireturn, 1)]
theorem dX11_isAheadNow : ∀ q ∈ tX11_isAheadNow, decode mX11_isAheadNow.2.1 q.1 = .ok q.2 := by decide +kernel
def tX11_mostInOpen : IT := [(0, .sipush 2000, 3), (3, .istore_n 2, 1), (4, .iconst 0, 1), (5, .istore_n 3, 1), (6, .iconst 0, 1), (7, .istore 4, 2), (9, .iload 4, 2), (11, .aload_n 0, 1), (12, .getfield 37, 3), (15, .getfield 98, 3), (18, .if_icmp .ge 43, 3), (21, .aload_n 0, 1), (22, .getfield 37, 3), (25, .iload_n 1, 1), (26, .iload 4, 2), (28, .invokevirtual 178, 3), (31, .iconst (-1), 1), (32, .if_icmp .ne 23, 3), (35, .iconst 1, 1), (36, .istore_n 3, 1), (37, .iload_n 2, 1), (38, .aload_n 0, 1), (39, .getfield 37, 3), (42, .getfield 124, 3), (45, .iload 4, 2), (47, .aaload, 1), (48, .invokevirtual 165, 3), (51, .invokestatic 354, 3), (54, .istore_n 2, 1), (55, .iinc 4 1, 3), (58, .goto (-49), 3), (61, .iload_n 3, 1), (62, .ifCond .eq 7, 3), (65, .iload_n 2, 1), (66, .goto 4, 3), (69, .iconst 0, 1), (70, .ireturn, 1)]
theorem dX11_mostInOpen : ∀ q ∈ tX11_mostInOpen, decode mX11_mostInOpen.2.1 q.1 = .ok q.2 := by decide +kernel
def tX11_putInOpen : IT := [(0, .iconst 0, 1), (1, .istore 4, 2), (3, .iload 4, 2), (5, .aload_n 0, 1), (6, .getfield 37, 3), (9, .getfield 98, 3), (12, .if_icmp .ge 39, 3), (15, .aload_n 0, 1), (16, .getfield 37, 3), (19, .iload_n 1, 1), (20, .iload 4, 2), (22, .invokevirtual 178, 3), (25, .iconst (-1), 1), (26, .if_icmp .ne 19, 3), (29, .aload_n 2, 1), (30, .getfield 314, 3), (33, .iload 4, 2), (35, .iload_n 3, 1), (36, .iastore, 1), (37, .aload_n 2, 1), (38, .getfield 320, 3), (41, .iload 4, 2), (43, .iconst 1, 1), (44, .bastore, 1), (45, .iinc 4 1, 3), (48, .goto (-45), 3), (51, .aload_n 2, 1), (52, .invokevirtual 324, 3), (55, .return_, 1)]
theorem dX11_putInOpen : ∀ q ∈ tX11_putInOpen, decode mX11_putInOpen.2.1 q.1 = .ok q.2 := by decide +kernel
def tX11_shareByEvent : IT := [(0, .iconst 0, 1), (1, .istore_n 3, 1), (2, .iload_n 3, 1), (3, .aload_n 0, 1), (4, .getfield 37, 3), (7, .getfield 98, 3), (10, .if_icmp .ge 47, 3), (13, .iconst 0, 1), (14, .istore 4, 2), (16, .iload 4, 2), (18, .iload_n 2, 1), (19, .if_icmp .gt 32, 3), (22, .aload_n 0, 1), (23, .getfield 58, 3), (26, .getfield 357, 3), (29, .iload_n 3, 1), (30, .aaload, 1), (31, .iload 4, 2), (33, .aload_n 0, 1), (34, .getfield 37, 3), (37, .iload_n 1, 1), (38, .iload_n 3, 1), (39, .iload 4, 2), (41, .invokevirtual 271, 3), (44, .iastore, 1), (45, .iinc 4 1, 3), (48, .goto (-32), 3), (51, .iinc 3 1, 3), (54, .goto (-52), 3), (57, .aload_n 0, 1), (58, .getfield 58, 3), (61, .aload_n 0, 1), (62, .getfield 37, 3), (65, .getfield 98, 3), (68, .iload_n 2, 1), (69, .invokevirtual 361, 3), (72, .return_, 1)]
theorem dX11_shareByEvent : ∀ q ∈ tX11_shareByEvent, decode mX11_shareByEvent.2.1 q.1 = .ok q.2 := by decide +kernel
def tX11_shareByAthlete : IT := [(0, .iconst 0, 1), (1, .istore_n 2, 1), (2, .iload_n 2, 1), (3, .aload_n 0, 1), (4, .getfield 37, 3), (7, .getfield 101, 3), (10, .if_icmp .ge 47, 3), (13, .aload_n 0, 1), (14, .iload_n 2, 1), (15, .iload_n 1, 1), (16, .invokevirtual 274, 3), (19, .iconst 0, 1), (20, .istore_n 3, 1), (21, .iload_n 3, 1), (22, .iload_n 1, 1), (23, .if_icmp .gt 28, 3), (26, .aload_n 0, 1), (27, .getfield 62, 3), (30, .getfield 357, 3), (33, .iload_n 2, 1), (34, .aaload, 1), (35, .iload_n 3, 1), (36, .aload_n 0, 1), (37, .getfield 58, 3), (40, .iload_n 3, 1), (41, .invokevirtual 277, 3), (44, .iastore, 1), (45, .iinc 3 1, 3), (48, .goto (-27), 3), (51, .iinc 2 1, 3), (54, .goto (-52), 3), (57, .aload_n 0, 1), (58, .getfield 62, 3), (61, .aload_n 0, 1), (62, .getfield 37, 3), (65, .getfield 101, 3), (68, .iload_n 1, 1), (69, .invokevirtual 361, 3), (72, .return_, 1)]
theorem dX11_shareByAthlete : ∀ q ∈ tX11_shareByAthlete, decode mX11_shareByAthlete.2.1 q.1 = .ok q.2 := by decide +kernel
def tX11_changeMark : IT := [(0, .aload_n 0, 1), (1, .getfield 37, 3), (4, .getfield 334, 3), (7, .iload_n 1, 1), (8, .iaload, 1), (9, .istore_n 3, 1), (10, .iload_n 3, 1), (11, .iload_n 2, 1), (12, .if_icmp .eq 24, 3), (15, .aload_n 0, 1), (16, .getfield 30, 3), (19, .iconst 0, 1), (20, .iload_n 1, 1), (21, .iload_n 3, 1), (22, .iconst 0, 1), (23, .invokevirtual 291, 3), (26, .aload_n 0, 1), (27, .getfield 37, 3), (30, .getfield 334, 3), (33, .iload_n 1, 1), (34, .iload_n 2, 1), (35, .iastore, 1), (36, .iload_n 3, 1), (37, .ireturn, 1)]
theorem dX11_changeMark : ∀ q ∈ tX11_changeMark, decode mX11_changeMark.2.1 q.1 = .ok q.2 := by decide +kernel
def tX11_sumOfTops : IT := [(0, .iconst 0, 1), (1, .istore_n 2, 1), (2, .iconst 0, 1), (3, .istore_n 3, 1), (4, .iload_n 3, 1), (5, .aload_n 0, 1), (6, .getfield 37, 3), (9, .getfield 98, 3), (12, .if_icmp .ge 22, 3), (15, .iload_n 2, 1), (16, .iload_n 1, 1), (17, .aload_n 0, 1), (18, .getfield 65, 3), (21, .iload_n 3, 1), (22, .iaload, 1), (23, .invokestatic 354, 3), (26, .iadd, 1), (27, .istore_n 2, 1), (28, .iinc 3 1, 3), (31, .goto (-27), 3), (34, .iload_n 2, 1), (35, .ireturn, 1)]
theorem dX11_sumOfTops : ∀ q ∈ tX11_sumOfTops, decode mX11_sumOfTops.2.1 q.1 = .ok q.2 := by decide +kernel
def tX12_init : IT := [(0, .aload_n 0, 1), (1, .invokespecial 3, 3), (4, .aload_n 0, 1), (5, .sipush 220, 3), (8, .newarray .int, 2), (10, .putfield 9, 3), (13, .aload_n 0, 1), (14, .iconst 4, 1), (15, .newarray .int, 2), (17, .putfield 13, 3), (20, .aload_n 0, 1), (21, .iconst 5, 1), (22, .newarray .int, 2), (24, .putfield 16, 3), (27, .aload_n 0, 1), (28, .sipush 1300, 3), (31, .newarray .int, 2), (33, .putfield 19, 3), (36, .aload_n 0, 1), (37, .bipush 80, 2), (39, .newarray .int, 2), (41, .putfield 22, 3), (44, .aload_n 0, 1), (45, .bipush 80, 2), (47, .newarray .int, 2), (49, .putfield 25, 3), (52, .aload_n 0, 1), (53, .bipush 80, 2), (55, .newarray .int, 2), (57, .putfield 28, 3), (60, .aload_n 0, 1), (61, .sipush 220, 3), (64, .newarray .int, 2), (66, .putfield 31, 3), (69, .aload_n 0, 1), (70, .iconst 4, 1), (71, .newarray .int, 2), (73, .putfield 34, 3), (76, .aload_n 0, 1), (77, .iconst 5, 1), (78, .newarray .int, 2), (80, .putfield 37, 3), (83, .aload_n 0, 1), (84, .sipush 1300, 3), (87, .newarray .int, 2), (89, .putfield 40, 3), (92, .aload_n 0, 1), (93, .bipush 80, 2), (95, .newarray .int, 2), (97, .putfield 43, 3), (100, .aload_n 0, 1), (101, .bipush 80, 2), (103, .newarray .int, 2), (105, .putfield 46, 3), (108, .aload_n 0, 1), (109, .bipush 80, 2), (111, .newarray .int, 2), (113, .putfield 49, 3), (116, .aload_n 0, 1), (117, .sipush 1200, 3), (120, .newarray .byte, 2), (122, .putfield 52, 3), (125, .aload_n 0, 1), (126, .iconst (-1), 1), (127, .putfield 56, 3), (130, .aload_n 0, 1), (131, .bipush 80, 2), (133, .newarray .int, 2), (135, .putfield 60, 3), (138, .aload_n 0, 1), (139, .bipush 80, 2), (141, .newarray .boolean, 2), (143, .putfield 63, 3), (146, .aload_n 0, 1), (147, .sipush 1300, 3), (150, .newarray .long, 2), (152, .putfield 67, 3), (155, .aload_n 0, 1), (156, .sipush 671, 3), (159, .newarray .int, 2), (161, .putfield 71, 3), (164, .aload_n 0, 1), (165, .sipush 488, 3), (168, .newarray .int, 2), (170, .putfield 74, 3), (173, .aload_n 0, 1), (174, .sipush 549, 3), (177, .newarray .int, 2), (179, .putfield 77, 3), (182, .aload_n 0, 1), (183, .bipush 80, 2), (185, .newarray .int, 2), (187, .putfield 80, 3), (190, .aload_n 0, 1), (191, .sipush 2420, 3), (194, .newarray .int, 2), (196, .putfield 83, 3), (199, .aload_n 0, 1), (200, .sipush 200, 3), (203, .newarray .byte, 2), (205, .putfield 86, 3), (208, .return_, 1)]
theorem dX12_init : ∀ q ∈ tX12_init, decode mX12_init.2.1 q.1 = .ok q.2 := by decide +kernel
def tX12_in : IT := [(0, .lload_n 0, 1), (1, .lload_n 2, 1), (2, .lcmp, 1), (3, .ifCond .lt 14, 3), (6, .lload_n 0, 1), (7, .lload 4, 2), (9, .lcmp, 1), (10, .ifCond .gt 7, 3), (13, .iconst 1, 1), (14, .goto 4, 3), (17, .iconst 0, 1), (18, .ireturn, 1)]
theorem dX12_in : ∀ q ∈ tX12_in, decode mX12_in.2.1 q.1 = .ok q.2 := by decide +kernel
def tX12_puts4 : IT := [(0, .bipush 24, 2), (2, .istore_n 2, 1), (3, .iload_n 2, 1), (4, .ifCond .lt 32, 3), (7, .aload_n 0, 1), (8, .getfield 52, 3), (11, .aload_n 0, 1), (12, .getfield 92, 3), (15, .iload_n 1, 1), (16, .iload_n 2, 1), (17, .ishr, 1), (18, .i2b, 1), (19, .bastore, 1), (20, .aload_n 0, 1), (21, .dup, 1), (22, .getfield 92, 3), (25, .iconst 1, 1), (26, .iadd, 1), (27, .putfield 92, 3), (30, .iinc 2 (-8), 3), (33, .goto (-30), 3), (36, .return_, 1)]
theorem dX12_puts4 : ∀ q ∈ tX12_puts4, decode mX12_puts4.2.1 q.1 = .ok q.2 := by decide +kernel
def tX12_feed : IT := [(0, .aload_n 0, 1), (1, .getfield 92, 3), (4, .bipush 20, 2), (6, .iadd, 1), (7, .sipush 1200, 3), (10, .if_icmp .le 5, 3), (13, .iconst (-1), 1), (14, .ireturn, 1), (15, .aload_n 0, 1), (16, .iload_n 1, 1), (17, .invokevirtual 95, 3), (20, .aload_n 0, 1), (21, .iload_n 2, 1), (22, .invokevirtual 95, 3), (25, .aload_n 0, 1), (26, .iload_n 3, 1), (27, .invokevirtual 95, 3), (30, .aload_n 0, 1), (31, .iload 4, 2), (33, .invokevirtual 95, 3), (36, .aload_n 0, 1), (37, .iload 5, 2), (39, .invokevirtual 95, 3), (42, .aload_n 0, 1), (43, .getfield 92, 3), (46, .ireturn, 1)]
theorem dX12_feed : ∀ q ∈ tX12_feed, decode mX12_feed.2.1 q.1 = .ok q.2 := by decide +kernel
def tX12_end : IT := [(0, .iload_n 1, 1), (1, .i2l, 1), (2, .lconst 0, 1), (3, .aload_n 0, 1), (4, .getfield 92, 3), (7, .i2l, 1), (8, .invokestatic 99, 3), (11, .ifCond .ne 5, 3), (14, .iconst (-1), 1), (15, .ireturn, 1), (16, .aload_n 0, 1), (17, .iload_n 1, 1), (18, .putfield 92, 3), (21, .iload_n 1, 1), (22, .ireturn, 1)]
theorem dX12_end : ∀ q ∈ tX12_end, decode mX12_end.2.1 q.1 = .ok q.2 := by decide +kernel
def tX12_good : IT := [(0, .aload_n 0, 1), (1, .getfield 103, 3), (4, .ifCond .ne 7, 3), (7, .iconst 1, 1), (8, .goto 4, 3), (11, .iconst 0, 1), (12, .ireturn, 1)]
theorem dX12_good : ∀ q ∈ tX12_good, decode mX12_good.2.1 q.1 = .ok q.2 := by decide +kernel
def tX12_errs : IT := [(0, .aload_n 0, 1), (1, .invokevirtual 106, 3), (4, .ifCond .ne 4, 3), (7, .return_, 1), (8, .aload_n 0, 1), (9, .iload_n 1, 1), (10, .putfield 103, 3), (13, .aload_n 0, 1), (14, .iload_n 2, 1), (15, .putfield 56, 3), (18, .return_, 1)]
theorem dX12_errs : ∀ q ∈ tX12_errs, decode mX12_errs.2.1 q.1 = .ok q.2 := by decide +kernel
def tX12_see : IT := [(0, .iload_n 1, 1), (1, .aload_n 0, 1), (2, .getfield 110, 3), (5, .if_icmp .ge 16, 3), (8, .aload_n 0, 1), (9, .getfield 52, 3), (12, .iload_n 1, 1), (13, .baload, 1), (14, .sipush 255, 3), (17, .iand, 1), (18, .goto 4, 3), (21, .iconst (-1), 1), (22, .ireturn, 1)]
theorem dX12_see : ∀ q ∈ tX12_see, decode mX12_see.2.1 q.1 = .ok q.2 := by decide +kernel
def tX12_advance : IT := [(0, .aload_n 0, 1), (1, .aload_n 0, 1), (2, .getfield 113, 3), (5, .invokevirtual 116, 3), (8, .bipush 32, 2), (10, .if_icmp .eq 16, 3), (13, .aload_n 0, 1), (14, .aload_n 0, 1), (15, .getfield 113, 3), (18, .invokevirtual 116, 3), (21, .bipush 10, 2), (23, .if_icmp .ne 16, 3), (26, .aload_n 0, 1), (27, .dup, 1), (28, .getfield 113, 3), (31, .iconst 1, 1), (32, .iadd, 1), (33, .putfield 113, 3), (36, .goto (-36), 3), (39, .aload_n 0, 1), (40, .aload_n 0, 1), (41, .getfield 113, 3), (44, .putfield 120, 3), (47, .aload_n 0, 1), (48, .aload_n 0, 1), (49, .getfield 113, 3), (52, .invokevirtual 116, 3), (55, .istore_n 1, 1), (56, .iload_n 1, 1), (57, .iconst (-1), 1), (58, .if_icmp .ne 11, 3), (61, .aload_n 0, 1), (62, .iconst 0, 1), (63, .putfield 123, 3), (66, .goto 168, 3), (69, .iload_n 1, 1), (70, .i2l, 1), (71, .ldc2_w 126, 3), (74, .ldc2_w 128, 3), (77, .invokestatic 99, 3), (80, .ifCond .eq 45, 3), (83, .aload_n 0, 1), (84, .aload_n 0, 1), (85, .getfield 113, 3), (88, .invokevirtual 116, 3), (91, .i2l, 1), (92, .ldc2_w 126, 3), (95, .ldc2_w 128, 3), (98, .invokestatic 99, 3), (101, .ifCond .eq 16, 3), (104, .aload_n 0, 1), (105, .dup, 1), (106, .getfield 113, 3), (109, .iconst 1, 1), (110, .iadd, 1), (111, .putfield 113, 3), (114, .goto (-31), 3), (117, .aload_n 0, 1), (118, .iconst 1, 1), (119, .putfield 123, 3), (122, .goto 112, 3), (125, .iload_n 1, 1), (126, .i2l, 1), (127, .ldc2_w 130, 3), (130, .ldc2_w 132, 3), (133, .invokestatic 99, 3), (136, .ifCond .eq 78, 3), (139, .aload_n 0, 1), (140, .iconst 0, 1), (141, .putfield 134, 3), (144, .aload_n 0, 1), (145, .aload_n 0, 1), (146, .getfield 113, 3), (149, .invokevirtual 116, 3), (152, .i2l, 1), (153, .ldc2_w 130, 3), (156, .ldc2_w 132, 3), (159, .invokestatic 99, 3), (162, .ifCond .eq 44, 3), (165, .aload_n 0, 1), (166, .ldc 137, 2), (168, .bipush 10, 2), (170, .aload_n 0, 1), (171, .getfield 134, 3), (174, .imul, 1), (175, .aload_n 0, 1), (176, .aload_n 0, 1), (177, .getfield 113, 3), (180, .invokevirtual 116, 3), (183, .iadd, 1), (184, .bipush 48, 2), (186, .isub, 1), (187, .invokestatic 138, 3), (190, .putfield 134, 3), (193, .aload_n 0, 1), (194, .dup, 1), (195, .getfield 113, 3), (198, .iconst 1, 1), (199, .iadd, 1), (200, .putfield 113, 3), (203, .goto (-59), 3), (206, .aload_n 0, 1), (207, .iconst 2, 1), (208, .putfield 123, 3), (211, .goto 23, 3), (214, .aload_n 0, 1), (215, .iconst 3, 1), (216, .putfield 123, 3), (219, .aload_n 0, 1), (220, .iload_n 1, 1), (221, .putfield 134, 3), (224, .aload_n 0, 1), (225, .dup, 1), (226, .getfield 113, 3), (229, .iconst 1, 1), (230, .iadd, 1), (231, .putfield 113, 3), (234, .return_, 1)]
theorem dX12_advance : ∀ q ∈ tX12_advance, decode mX12_advance.2.1 q.1 = .ok q.2 := by decide +kernel
def tX12_isWord : IT := [(0, .aload_n 0, 1), (1, .invokevirtual 106, 3), (4, .ifCond .eq 31, 3), (7, .aload_n 0, 1), (8, .getfield 123, 3), (11, .iconst 1, 1), (12, .if_icmp .ne 23, 3), (15, .aload_n 0, 1), (16, .getfield 113, 3), (19, .aload_n 0, 1), (20, .getfield 120, 3), (23, .isub, 1), (24, .aload_n 1, 1), (25, .invokevirtual 144, 3), (28, .if_icmp .ne 7, 3), (31, .iconst 1, 1), (32, .goto 4, 3), (35, .iconst 0, 1), (36, .istore_n 2, 1), (37, .iconst 0, 1), (38, .istore_n 3, 1), (39, .iload_n 3, 1), (40, .aload_n 1, 1), (41, .invokevirtual 144, 3), (44, .if_icmp .ge 38, 3), (47, .iload_n 2, 1), (48, .ifCond .eq 34, 3), (51, .aload_n 0, 1), (52, .getfield 52, 3), (55, .aload_n 0, 1), (56, .getfield 120, 3), (59, .iload_n 3, 1), (60, .iadd, 1), (61, .baload, 1), (62, .aload_n 1, 1), (63, .iload_n 3, 1), (64, .invokevirtual 150, 3), (67, .if_icmp .ne 7, 3), (70, .iconst 1, 1), (71, .goto 4, 3), (74, .iconst 0, 1), (75, .istore_n 2, 1), (76, .iinc 3 1, 3), (79, .goto (-40), 3), (82, .iload_n 2, 1), (83, .ireturn, 1)]
theorem dX12_isWord : ∀ q ∈ tX12_isWord, decode mX12_isWord.2.1 q.1 = .ok q.2 := by decide +kernel
def tX12_isByte : IT := [(0, .aload_n 0, 1), (1, .invokevirtual 106, 3), (4, .ifCond .eq 23, 3), (7, .aload_n 0, 1), (8, .getfield 123, 3), (11, .iconst 3, 1), (12, .if_icmp .ne 15, 3), (15, .aload_n 0, 1), (16, .getfield 134, 3), (19, .iload_n 1, 1), (20, .if_icmp .ne 7, 3), (23, .iconst 1, 1), (24, .goto 4, 3), (27, .iconst 0, 1), (28, .ireturn, 1)]
theorem dX12_isByte : ∀ q ∈ tX12_isByte, decode mX12_isByte.2.1 q.1 = .ok q.2 := by decide +kernel
def tX12_eats : IT := [(0, .aload_n 0, 1), (1, .aload_n 1, 1), (2, .invokevirtual 154, 3), (5, .ifCond .ne 5, 3), (8, .iconst 0, 1), (9, .ireturn, 1), (10, .aload_n 0, 1), (11, .invokevirtual 158, 3), (14, .iconst 1, 1), (15, .ireturn, 1)]
theorem dX12_eats : ∀ q ∈ tX12_eats, decode mX12_eats.2.1 q.1 = .ok q.2 := by decide +kernel
def tX12_eatsByte : IT := [(0, .aload_n 0, 1), (1, .iload_n 1, 1), (2, .invokevirtual 161, 3), (5, .ifCond .ne 5, 3), (8, .iconst 0, 1), (9, .ireturn, 1), (10, .aload_n 0, 1), (11, .invokevirtual 158, 3), (14, .iconst 1, 1), (15, .ireturn, 1)]
theorem dX12_eatsByte : ∀ q ∈ tX12_eatsByte, decode mX12_eatsByte.2.1 q.1 = .ok q.2 := by decide +kernel
def tX12_passes : IT := [(0, .aload_n 0, 1), (1, .aload_n 1, 1), (2, .invokevirtual 165, 3), (5, .ifCond .ne 12, 3), (8, .aload_n 0, 1), (9, .iconst 1, 1), (10, .aload_n 0, 1), (11, .getfield 120, 3), (14, .invokevirtual 168, 3), (17, .return_, 1)]
theorem dX12_passes : ∀ q ∈ tX12_passes, decode mX12_passes.2.1 q.1 = .ok q.2 := by decide +kernel
def tX12_passesByte : IT := [(0, .aload_n 0, 1), (1, .iload_n 1, 1), (2, .invokevirtual 172, 3), (5, .ifCond .ne 12, 3), (8, .aload_n 0, 1), (9, .iconst 1, 1), (10, .aload_n 0, 1), (11, .getfield 120, 3), (14, .invokevirtual 168, 3), (17, .return_, 1)]
theorem dX12_passesByte : ∀ q ∈ tX12_passesByte, decode mX12_passesByte.2.1 q.1 = .ok q.2 := by decide +kernel
def tX12_number : IT := [(0, .aload_n 0, 1), (1, .invokevirtual 106, 3), (4, .ifCond .eq 20, 3), (7, .aload_n 0, 1), (8, .getfield 123, 3), (11, .iconst 2, 1), (12, .if_icmp .eq 12, 3), (15, .aload_n 0, 1), (16, .iconst 1, 1), (17, .aload_n 0, 1), (18, .getfield 120, 3), (21, .invokevirtual 168, 3), (24, .aload_n 0, 1), (25, .invokevirtual 106, 3), (28, .ifCond .eq 27, 3), (31, .aload_n 0, 1), (32, .getfield 134, 3), (35, .i2l, 1), (36, .iload_n 1, 1), (37, .i2l, 1), (38, .iload_n 2, 1), (39, .i2l, 1), (40, .invokestatic 99, 3), (43, .ifCond .ne 12, 3), (46, .aload_n 0, 1), (47, .iconst 2, 1), (48, .aload_n 0, 1), (49, .getfield 120, 3), (52, .invokevirtual 168, 3), (55, .aload_n 0, 1), (56, .getfield 134, 3), (59, .istore_n 3, 1), (60, .aload_n 0, 1), (61, .invokevirtual 106, 3), (64, .ifCond .eq 7, 3), (67, .aload_n 0, 1), (68, .invokevirtual 158, 3), (71, .iload_n 3, 1), (72, .ireturn, 1)]
theorem dX12_number : ∀ q ∈ tX12_number, decode mX12_number.2.1 q.1 = .ok q.2 := by decide +kernel
def tX12_readTable : IT := [(0, .iconst 0, 1), (1, .istore_n 2, 1), (2, .iconst (-1), 1), (3, .istore_n 3, 1), (4, .iconst 0, 1), (5, .istore 4, 2), (7, .aload_n 0, 1), (8, .invokevirtual 106, 3), (11, .ifCond .eq 20, 3), (14, .aload_n 0, 1), (15, .getfield 123, 3), (18, .iconst 2, 1), (19, .if_icmp .eq 12, 3), (22, .aload_n 0, 1), (23, .iconst 1, 1), (24, .aload_n 0, 1), (25, .getfield 120, 3), (28, .invokevirtual 168, 3), (31, .aload_n 0, 1), (32, .invokevirtual 106, 3), (35, .ifCond .eq 30, 3), (38, .aload_n 0, 1), (39, .getfield 134, 3), (42, .i2l, 1), (43, .iload_n 3, 1), (44, .iconst 1, 1), (45, .iadd, 1), (46, .i2l, 1), (47, .ldc2_w 175, 3), (50, .invokestatic 99, 3), (53, .ifCond .ne 12, 3), (56, .aload_n 0, 1), (57, .iconst 2, 1), (58, .aload_n 0, 1), (59, .getfield 120, 3), (62, .invokevirtual 168, 3), (65, .iload_n 2, 1), (66, .bipush 8, 2), (68, .if_icmp .ne 12, 3), (71, .aload_n 0, 1), (72, .iconst 4, 1), (73, .aload_n 0, 1), (74, .getfield 120, 3), (77, .invokevirtual 168, 3), (80, .aload_n 0, 1), (81, .invokevirtual 106, 3), (84, .ifCond .ne 4, 3), (87, .return_, 1), (88, .aload_n 0, 1), (89, .iload_n 3, 1), (90, .iconst 1, 1), (91, .iadd, 1), (92, .ldc 177, 2), (94, .invokevirtual 178, 3), (97, .istore_n 3, 1), (98, .aload_n 0, 1), (99, .bipush 58, 2), (101, .invokevirtual 181, 3), (104, .aload_n 0, 1), (105, .iload 4, 2), (107, .sipush 2000, 3), (110, .invokevirtual 178, 3), (113, .istore 4, 2), (115, .aload_n 0, 1), (116, .invokevirtual 106, 3), (119, .ifCond .ne 4, 3), (122, .return_, 1), (123, .aload_n 0, 1), (124, .getfield 31, 3), (127, .iload_n 1, 1), (128, .bipush 6, 2), (130, .iadd, 1), (131, .iconst 2, 1), (132, .iload_n 2, 1), (133, .imul, 1), (134, .iadd, 1), (135, .iload_n 3, 1), (136, .iastore, 1), (137, .aload_n 0, 1), (138, .getfield 31, 3), (141, .iload_n 1, 1), (142, .bipush 6, 2), (144, .iadd, 1), (145, .iconst 2, 1), (146, .iload_n 2, 1), (147, .imul, 1), (148, .iadd, 1), (149, .iconst 1, 1), (150, .iadd, 1), (151, .iload 4, 2), (153, .iastore, 1), (154, .iinc 2 1, 3), (157, .aload_n 0, 1), (158, .bipush 44, 2), (160, .invokevirtual 172, 3), (163, .ifCond .ne (-156), 3), (166, .aload_n 0, 1), (167, .getfield 31, 3), (170, .iload_n 1, 1), (171, .iconst 3, 1), (172, .iadd, 1), (173, .iload_n 2, 1), (174, .iastore, 1), (175, .aload_n 0, 1), (176, .getfield 31, 3), (179, .iload_n 1, 1), (180, .iconst 4, 1), (181, .iadd, 1), (182, .iconst (-1), 1), (183, .iastore, 1), (184, .return_, 1)]
theorem dX12_readTable : ∀ q ∈ tX12_readTable, decode mX12_readTable.2.1 q.1 = .ok q.2 := by decide +kernel
def tX12_readEvent : IT := [(0, .aload_n 0, 1), (1, .getfield 184, 3), (4, .bipush 10, 2), (6, .if_icmp .ne 12, 3), (9, .aload_n 0, 1), (10, .iconst 4, 1), (11, .aload_n 0, 1), (12, .getfield 120, 3), (15, .invokevirtual 168, 3), (18, .aload_n 0, 1), (19, .invokevirtual 106, 3), (22, .ifCond .ne 4, 3), (25, .return_, 1), (26, .aload_n 0, 1), (27, .invokevirtual 158, 3), (30, .aload_n 0, 1), (31, .getfield 184, 3), (34, .bipush 22, 2), (36, .imul, 1), (37, .istore_n 1, 1), (38, .aload_n 0, 1), (39, .getfield 31, 3), (42, .iload_n 1, 1), (43, .iconst 0, 1), (44, .iadd, 1), (45, .aload_n 0, 1), (46, .ldc 187, 2), (48, .invokevirtual 154, 3), (51, .ifCond .eq 7, 3), (54, .iconst 1, 1), (55, .goto 4, 3), (58, .iconst 0, 1), (59, .iastore, 1), (60, .aload_n 0, 1), (61, .ldc 189, 2), (63, .invokevirtual 154, 3), (66, .ifCond .ne 21, 3), (69, .aload_n 0, 1), (70, .ldc 187, 2), (72, .invokevirtual 154, 3), (75, .ifCond .ne 12, 3), (78, .aload_n 0, 1), (79, .iconst 1, 1), (80, .aload_n 0, 1), (81, .getfield 120, 3), (84, .invokevirtual 168, 3), (87, .aload_n 0, 1), (88, .invokevirtual 106, 3), (91, .ifCond .eq 7, 3), (94, .aload_n 0, 1), (95, .invokevirtual 158, 3), (98, .aload_n 0, 1), (99, .ldc 191, 2), (101, .invokevirtual 193, 3), (104, .aload_n 0, 1), (105, .getfield 31, 3), (108, .iload_n 1, 1), (109, .iconst 1, 1), (110, .iadd, 1), (111, .aload_n 0, 1), (112, .iconst 0, 1), (113, .ldc 177, 2), (115, .invokevirtual 178, 3), (118, .iastore, 1), (119, .aload_n 0, 1), (120, .ldc 197, 2), (122, .invokevirtual 154, 3), (125, .ifCond .eq 7, 3), (128, .iconst 0, 1), (129, .goto 43, 3), (132, .aload_n 0, 1), (133, .ldc 199, 2), (135, .invokevirtual 154, 3), (138, .ifCond .eq 7, 3), (141, .iconst 1, 1), (142, .goto 30, 3), (145, .aload_n 0, 1), (146, .ldc 201, 2), (148, .invokevirtual 154, 3), (151, .ifCond .eq 7, 3), (154, .iconst 2, 1), (155, .goto 17, 3), (158, .aload_n 0, 1), (159, .ldc 203, 2), (161, .invokevirtual 154, 3), (164, .ifCond .eq 7, 3), (167, .iconst 3, 1), (168, .goto 4, 3), (171, .iconst (-1), 1), (172, .istore_n 2, 1), (173, .iload_n 2, 1), (174, .iconst (-1), 1), (175, .if_icmp .ne 12, 3), (178, .aload_n 0, 1), (179, .iconst 1, 1), (180, .aload_n 0, 1), (181, .getfield 120, 3), (184, .invokevirtual 168, 3), (187, .aload_n 0, 1), (188, .invokevirtual 106, 3), (191, .ifCond .ne 4, 3), (194, .return_, 1), (195, .aload_n 0, 1), (196, .invokevirtual 158, 3), (199, .aload_n 0, 1), (200, .getfield 31, 3), (203, .iload_n 1, 1), (204, .iconst 2, 1), (205, .iadd, 1), (206, .iload_n 2, 1), (207, .iastore, 1), (208, .iload_n 2, 1), (209, .iconst 3, 1), (210, .if_icmp .ne 11, 3), (213, .aload_n 0, 1), (214, .iload_n 1, 1), (215, .invokevirtual 205, 3), (218, .goto 40, 3), (221, .aload_n 0, 1), (222, .getfield 31, 3), (225, .iload_n 1, 1), (226, .iconst 3, 1), (227, .iadd, 1), (228, .aload_n 0, 1), (229, .iconst 1, 1), (230, .sipush 9999, 3), (233, .invokevirtual 178, 3), (236, .iastore, 1), (237, .aload_n 0, 1), (238, .ldc 208, 2), (240, .invokevirtual 193, 3), (243, .aload_n 0, 1), (244, .getfield 31, 3), (247, .iload_n 1, 1), (248, .iconst 4, 1), (249, .iadd, 1), (250, .aload_n 0, 1), (251, .iconst 1, 1), (252, .ldc 177, 2), (254, .invokevirtual 178, 3), (257, .iastore, 1), (258, .aload_n 0, 1), (259, .getfield 31, 3), (262, .iload_n 1, 1), (263, .iconst 5, 1), (264, .iadd, 1), (265, .aload_n 0, 1), (266, .ldc 210, 2), (268, .invokevirtual 165, 3), (271, .ifCond .eq 14, 3), (274, .aload_n 0, 1), (275, .iconst 0, 1), (276, .sipush 999, 3), (279, .invokevirtual 178, 3), (282, .goto 4, 3), (285, .iconst 0, 1), (286, .iastore, 1), (287, .aload_n 0, 1), (288, .dup, 1), (289, .getfield 184, 3), (292, .iconst 1, 1), (293, .iadd, 1), (294, .putfield 184, 3), (297, .return_, 1)]
theorem dX12_readEvent : ∀ q ∈ tX12_readEvent, decode mX12_readEvent.2.1 q.1 = .ok q.2 := by decide +kernel
def tX12_puts : IT := [(0, .aload_n 0, 1), (1, .invokevirtual 106, 3), (4, .ifCond .ne 4, 3), (7, .return_, 1), (8, .aload_n 0, 1), (9, .getfield 40, 3), (12, .aload_n 0, 1), (13, .getfield 212, 3), (16, .iload_n 1, 1), (17, .bipush 16, 2), (19, .iload_n 2, 1), (20, .imul, 1), (21, .iadd, 1), (22, .iastore, 1), (23, .aload_n 0, 1), (24, .dup, 1), (25, .getfield 212, 3), (28, .iconst 1, 1), (29, .iadd, 1), (30, .putfield 212, 3), (33, .return_, 1)]
theorem dX12_puts : ∀ q ∈ tX12_puts, decode mX12_puts.2.1 q.1 = .ok q.2 := by decide +kernel
def tX12_opens : IT := [(0, .aload_n 0, 1), (1, .getfield 215, 3), (4, .bipush 6, 2), (6, .if_icmp .ne 12, 3), (9, .aload_n 0, 1), (10, .iconst 4, 1), (11, .aload_n 0, 1), (12, .getfield 120, 3), (15, .invokevirtual 168, 3), (18, .aload_n 0, 1), (19, .dup, 1), (20, .getfield 215, 3), (23, .iconst 1, 1), (24, .iadd, 1), (25, .putfield 215, 3), (28, .aload_n 0, 1), (29, .invokevirtual 106, 3), (32, .ifCond .eq 7, 3), (35, .aload_n 0, 1), (36, .invokevirtual 158, 3), (39, .return_, 1)]
theorem dX12_opens : ∀ q ∈ tX12_opens, decode mX12_opens.2.1 q.1 = .ok q.2 := by decide +kernel
def tX12_readTerm : IT := [(0, .aload_n 0, 1), (1, .invokevirtual 106, 3), (4, .ifCond .ne 4, 3), (7, .return_, 1), (8, .aload_n 0, 1), (9, .getfield 123, 3), (12, .iconst 2, 1), (13, .if_icmp .ne 18, 3), (16, .aload_n 0, 1), (17, .iconst 0, 1), (18, .aload_n 0, 1), (19, .iconst 0, 1), (20, .ldc 177, 2), (22, .invokevirtual 178, 3), (25, .invokevirtual 218, 3), (28, .goto 152, 3), (31, .aload_n 0, 1), (32, .ldc 221, 2), (34, .invokevirtual 165, 3), (37, .ifCond .eq 22, 3), (40, .aload_n 0, 1), (41, .iconst 1, 1), (42, .aload_n 0, 1), (43, .iconst 0, 1), (44, .aload_n 0, 1), (45, .getfield 184, 3), (48, .iconst 1, 1), (49, .isub, 1), (50, .invokevirtual 178, 3), (53, .invokevirtual 218, 3), (56, .goto 124, 3), (59, .aload_n 0, 1), (60, .bipush 40, 2), (62, .invokevirtual 161, 3), (65, .ifCond .eq 30, 3), (68, .aload_n 0, 1), (69, .invokevirtual 223, 3), (72, .aload_n 0, 1), (73, .invokevirtual 226, 3), (76, .aload_n 0, 1), (77, .bipush 41, 2), (79, .invokevirtual 181, 3), (82, .aload_n 0, 1), (83, .dup, 1), (84, .getfield 215, 3), (87, .iconst 1, 1), (88, .isub, 1), (89, .putfield 215, 3), (92, .goto 88, 3), (95, .aload_n 0, 1), (96, .ldc 229, 2), (98, .invokevirtual 154, 3), (101, .ifCond .eq 7, 3), (104, .iconst 2, 1), (105, .goto 43, 3), (108, .aload_n 0, 1), (109, .ldc 231, 2), (111, .invokevirtual 154, 3), (114, .ifCond .eq 7, 3), (117, .iconst 3, 1), (118, .goto 30, 3), (121, .aload_n 0, 1), (122, .ldc 233, 2), (124, .invokevirtual 154, 3), (127, .ifCond .eq 7, 3), (130, .iconst 4, 1), (131, .goto 17, 3), (134, .aload_n 0, 1), (135, .ldc 235, 2), (137, .invokevirtual 154, 3), (140, .ifCond .eq 7, 3), (143, .iconst 5, 1), (144, .goto 4, 3), (147, .iconst (-1), 1), (148, .istore_n 1, 1), (149, .iload_n 1, 1), (150, .iconst (-1), 1), (151, .if_icmp .ne 12, 3), (154, .aload_n 0, 1), (155, .iconst 1, 1), (156, .aload_n 0, 1), (157, .getfield 120, 3), (160, .invokevirtual 168, 3), (163, .aload_n 0, 1), (164, .iload_n 1, 1), (165, .iconst 0, 1), (166, .invokevirtual 218, 3), (169, .aload_n 0, 1), (170, .invokevirtual 106, 3), (173, .ifCond .eq 7, 3), (176, .aload_n 0, 1), (177, .invokevirtual 158, 3), (180, .return_, 1)]
theorem dX12_readTerm : ∀ q ∈ tX12_readTerm, decode mX12_readTerm.2.1 q.1 = .ok q.2 := by decide +kernel
def tX12_readSum : IT := [(0, .aload_n 0, 1), (1, .invokevirtual 237, 3), (4, .aload_n 0, 1), (5, .bipush 43, 2), (7, .invokevirtual 161, 3), (10, .ifCond .ne 12, 3), (13, .aload_n 0, 1), (14, .bipush 45, 2), (16, .invokevirtual 161, 3), (19, .ifCond .eq 37, 3), (22, .aload_n 0, 1), (23, .getfield 134, 3), (26, .bipush 43, 2), (28, .if_icmp .ne 8, 3), (31, .bipush 6, 2), (33, .goto 5, 3), (36, .bipush 7, 2), (38, .istore_n 1, 1), (39, .aload_n 0, 1), (40, .invokevirtual 158, 3), (43, .aload_n 0, 1), (44, .invokevirtual 237, 3), (47, .aload_n 0, 1), (48, .iload_n 1, 1), (49, .iconst 0, 1), (50, .invokevirtual 218, 3), (53, .goto (-49), 3), (56, .return_, 1)]
theorem dX12_readSum : ∀ q ∈ tX12_readSum, decode mX12_readSum.2.1 q.1 = .ok q.2 := by decide +kernel
def tX12_readFact : IT := [(0, .aload_n 0, 1), (1, .ldc 240, 2), (3, .invokevirtual 154, 3), (6, .ifCond .eq 31, 3), (9, .aload_n 0, 1), (10, .invokevirtual 223, 3), (13, .aload_n 0, 1), (14, .invokevirtual 242, 3), (17, .aload_n 0, 1), (18, .dup, 1), (19, .getfield 215, 3), (22, .iconst 1, 1), (23, .isub, 1), (24, .putfield 215, 3), (27, .aload_n 0, 1), (28, .bipush 11, 2), (30, .iconst 0, 1), (31, .invokevirtual 218, 3), (34, .goto 123, 3), (37, .aload_n 0, 1), (38, .bipush 91, 2), (40, .invokevirtual 161, 3), (43, .ifCond .eq 30, 3), (46, .aload_n 0, 1), (47, .invokevirtual 223, 3), (50, .aload_n 0, 1), (51, .invokevirtual 245, 3), (54, .aload_n 0, 1), (55, .bipush 93, 2), (57, .invokevirtual 181, 3), (60, .aload_n 0, 1), (61, .dup, 1), (62, .getfield 215, 3), (65, .iconst 1, 1), (66, .isub, 1), (67, .putfield 215, 3), (70, .goto 87, 3), (73, .aload_n 0, 1), (74, .invokevirtual 226, 3), (77, .aload_n 0, 1), (78, .bipush 60, 2), (80, .invokevirtual 161, 3), (83, .ifCond .eq 8, 3), (86, .bipush 8, 2), (88, .goto 32, 3), (91, .aload_n 0, 1), (92, .bipush 61, 2), (94, .invokevirtual 161, 3), (97, .ifCond .eq 8, 3), (100, .bipush 9, 2), (102, .goto 18, 3), (105, .aload_n 0, 1), (106, .bipush 62, 2), (108, .invokevirtual 161, 3), (111, .ifCond .eq 8, 3), (114, .bipush 10, 2), (116, .goto 4, 3), (119, .iconst (-1), 1), (120, .istore_n 1, 1), (121, .iload_n 1, 1), (122, .iconst (-1), 1), (123, .if_icmp .ne 12, 3), (126, .aload_n 0, 1), (127, .iconst 1, 1), (128, .aload_n 0, 1), (129, .getfield 120, 3), (132, .invokevirtual 168, 3), (135, .aload_n 0, 1), (136, .invokevirtual 106, 3), (139, .ifCond .ne 4, 3), (142, .return_, 1), (143, .aload_n 0, 1), (144, .invokevirtual 158, 3), (147, .aload_n 0, 1), (148, .invokevirtual 226, 3), (151, .aload_n 0, 1), (152, .iload_n 1, 1), (153, .iconst 0, 1), (154, .invokevirtual 218, 3), (157, .return_, 1)]
theorem dX12_readFact : ∀ q ∈ tX12_readFact, decode mX12_readFact.2.1 q.1 = .ok q.2 := by decide +kernel
def tX12_readSide : IT := [(0, .aload_n 0, 1), (1, .invokevirtual 106, 3), (4, .ifCond .eq 7, 3), (7, .aload_n 0, 1), (8, .invokevirtual 242, 3), (11, .aload_n 0, 1), (12, .ldc 248, 2), (14, .invokevirtual 165, 3), (17, .ifCond .eq 17, 3), (20, .aload_n 0, 1), (21, .invokevirtual 242, 3), (24, .aload_n 0, 1), (25, .bipush 12, 2), (27, .iconst 0, 1), (28, .invokevirtual 218, 3), (31, .goto (-20), 3), (34, .return_, 1)]
theorem dX12_readSide : ∀ q ∈ tX12_readSide, decode mX12_readSide.2.1 q.1 = .ok q.2 := by decide +kernel
def tX12_readTest : IT := [(0, .aload_n 0, 1), (1, .invokevirtual 106, 3), (4, .ifCond .eq 7, 3), (7, .aload_n 0, 1), (8, .invokevirtual 250, 3), (11, .aload_n 0, 1), (12, .ldc 253, 2), (14, .invokevirtual 165, 3), (17, .ifCond .eq 17, 3), (20, .aload_n 0, 1), (21, .invokevirtual 250, 3), (24, .aload_n 0, 1), (25, .bipush 13, 2), (27, .iconst 0, 1), (28, .invokevirtual 218, 3), (31, .goto (-20), 3), (34, .return_, 1)]
theorem dX12_readTest : ∀ q ∈ tX12_readTest, decode mX12_readTest.2.1 q.1 = .ok q.2 := by decide +kernel
def tX12_readBonus : IT := [(0, .aload_n 0, 1), (1, .getfield 255, 3), (4, .iconst 4, 1), (5, .if_icmp .ne 12, 3), (8, .aload_n 0, 1), (9, .iconst 4, 1), (10, .aload_n 0, 1), (11, .getfield 120, 3), (14, .invokevirtual 168, 3), (17, .aload_n 0, 1), (18, .invokevirtual 106, 3), (21, .ifCond .ne 4, 3), (24, .return_, 1), (25, .aload_n 0, 1), (26, .invokevirtual 158, 3), (29, .aload_n 0, 1), (30, .getfield 34, 3), (33, .aload_n 0, 1), (34, .getfield 255, 3), (37, .aload_n 0, 1), (38, .iconst 1, 1), (39, .sipush 500, 3), (42, .invokevirtual 178, 3), (45, .iastore, 1), (46, .aload_n 0, 1), (47, .ldc_w 258, 3), (50, .invokevirtual 193, 3), (53, .aload_n 0, 1), (54, .iconst 0, 1), (55, .putfield 215, 3), (58, .aload_n 0, 1), (59, .invokevirtual 106, 3), (62, .ifCond .eq 7, 3), (65, .aload_n 0, 1), (66, .invokevirtual 245, 3), (69, .aload_n 0, 1), (70, .dup, 1), (71, .getfield 255, 3), (74, .iconst 1, 1), (75, .iadd, 1), (76, .putfield 255, 3), (79, .aload_n 0, 1), (80, .getfield 37, 3), (83, .aload_n 0, 1), (84, .getfield 255, 3), (87, .aload_n 0, 1), (88, .getfield 212, 3), (91, .iastore, 1), (92, .return_, 1)]
theorem dX12_readBonus : ∀ q ∈ tX12_readBonus, decode mX12_readBonus.2.1 q.1 = .ok q.2 := by decide +kernel
def tX12_readTie : IT := [(0, .aload_n 0, 1), (1, .getfield 260, 3), (4, .ifCond .eq 12, 3), (7, .aload_n 0, 1), (8, .iconst 3, 1), (9, .aload_n 0, 1), (10, .getfield 120, 3), (13, .invokevirtual 168, 3), (16, .aload_n 0, 1), (17, .iconst 1, 1), (18, .putfield 260, 3), (21, .aload_n 0, 1), (22, .invokevirtual 106, 3), (25, .ifCond .eq 7, 3), (28, .aload_n 0, 1), (29, .invokevirtual 158, 3), (32, .aload_n 0, 1), (33, .ldc_w 264, 3), (36, .invokevirtual 154, 3), (39, .ifCond .eq 7, 3), (42, .iconst 0, 1), (43, .goto 31, 3), (46, .aload_n 0, 1), (47, .ldc 233, 2), (49, .invokevirtual 154, 3), (52, .ifCond .eq 7, 3), (55, .iconst 1, 1), (56, .goto 18, 3), (59, .aload_n 0, 1), (60, .ldc_w 266, 3), (63, .invokevirtual 154, 3), (66, .ifCond .eq 7, 3), (69, .iconst 2, 1), (70, .goto 4, 3), (73, .iconst (-1), 1), (74, .istore_n 1, 1), (75, .iload_n 1, 1), (76, .iconst (-1), 1), (77, .if_icmp .ne 12, 3), (80, .aload_n 0, 1), (81, .iconst 1, 1), (82, .aload_n 0, 1), (83, .getfield 120, 3), (86, .invokevirtual 168, 3), (89, .aload_n 0, 1), (90, .iload_n 1, 1), (91, .putfield 268, 3), (94, .aload_n 0, 1), (95, .invokevirtual 106, 3), (98, .ifCond .eq 7, 3), (101, .aload_n 0, 1), (102, .invokevirtual 158, 3), (105, .return_, 1)]
theorem dX12_readTie : ∀ q ∈ tX12_readTie, decode mX12_readTie.2.1 q.1 = .ok q.2 := by decide +kernel
def tX12_readLine : IT := [(0, .aload_n 0, 1), (1, .ldc_w 271, 3), (4, .invokevirtual 154, 3), (7, .ifCond .eq 10, 3), (10, .aload_n 0, 1), (11, .invokevirtual 272, 3), (14, .goto 253, 3), (17, .aload_n 0, 1), (18, .ldc_w 275, 3), (21, .invokevirtual 154, 3), (24, .ifCond .eq 10, 3), (27, .aload_n 0, 1), (28, .invokevirtual 277, 3), (31, .goto 236, 3), (34, .aload_n 0, 1), (35, .ldc_w 280, 3), (38, .invokevirtual 154, 3), (41, .ifCond .eq 10, 3), (44, .aload_n 0, 1), (45, .invokevirtual 281, 3), (48, .goto 219, 3), (51, .aload_n 0, 1), (52, .ldc_w 284, 3), (55, .invokevirtual 154, 3), (58, .ifCond .eq 45, 3), (61, .aload_n 0, 1), (62, .getfield 286, 3), (65, .bipush 8, 2), (67, .if_icmp .ne 12, 3), (70, .aload_n 0, 1), (71, .iconst 4, 1), (72, .aload_n 0, 1), (73, .getfield 120, 3), (76, .invokevirtual 168, 3), (79, .aload_n 0, 1), (80, .invokevirtual 106, 3), (83, .ifCond .eq 7, 3), (86, .aload_n 0, 1), (87, .invokevirtual 158, 3), (90, .aload_n 0, 1), (91, .dup, 1), (92, .getfield 286, 3), (95, .iconst 1, 1), (96, .iadd, 1), (97, .putfield 286, 3), (100, .goto 167, 3), (103, .aload_n 0, 1), (104, .ldc_w 289, 3), (107, .invokevirtual 154, 3), (110, .ifCond .ne 13, 3), (113, .aload_n 0, 1), (114, .ldc_w 291, 3), (117, .invokevirtual 154, 3), (120, .ifCond .eq 138, 3), (123, .aload_n 0, 1), (124, .ldc_w 289, 3), (127, .invokevirtual 154, 3), (130, .istore_n 1, 1), (131, .aload_n 0, 1), (132, .invokevirtual 158, 3), (135, .aload_n 0, 1), (136, .iconst 0, 1), (137, .aload_n 0, 1), (138, .getfield 286, 3), (141, .iconst 1, 1), (142, .isub, 1), (143, .invokevirtual 178, 3), (146, .istore_n 2, 1), (147, .aload_n 0, 1), (148, .iconst 0, 1), (149, .aload_n 0, 1), (150, .getfield 184, 3), (153, .iconst 1, 1), (154, .isub, 1), (155, .invokevirtual 178, 3), (158, .istore_n 3, 1), (159, .aload_n 0, 1), (160, .iconst 0, 1), (161, .ldc 177, 2), (163, .invokevirtual 178, 3), (166, .istore 4, 2), (168, .iload_n 1, 1), (169, .ifCond .ne 10, 3), (172, .aload_n 0, 1), (173, .ldc_w 293, 3), (176, .invokevirtual 193, 3), (179, .iload_n 1, 1), (180, .ifCond .eq 7, 3), (183, .iconst 0, 1), (184, .goto 11, 3), (187, .aload_n 0, 1), (188, .iconst 1, 1), (189, .sipush 999, 3), (192, .invokevirtual 178, 3), (195, .istore 5, 2), (197, .aload_n 0, 1), (198, .invokevirtual 106, 3), (201, .ifCond .ne 4, 3), (204, .return_, 1), (205, .iload_n 1, 1), (206, .ifCond .eq 19, 3), (209, .aload_n 0, 1), (210, .getfield 43, 3), (213, .bipush 10, 2), (215, .iload_n 2, 1), (216, .imul, 1), (217, .iload_n 3, 1), (218, .iadd, 1), (219, .iload 4, 2), (221, .iastore, 1), (222, .goto 16, 3), (225, .aload_n 0, 1), (226, .getfield 46, 3), (229, .bipush 10, 2), (231, .iload_n 2, 1), (232, .imul, 1), (233, .iload_n 3, 1), (234, .iadd, 1), (235, .iload 4, 2), (237, .iastore, 1), (238, .iload_n 1, 1), (239, .ifCond .ne 16, 3), (242, .aload_n 0, 1), (243, .getfield 49, 3), (246, .bipush 10, 2), (248, .iload_n 2, 1), (249, .imul, 1), (250, .iload_n 3, 1), (251, .iadd, 1), (252, .iload 5, 2), (254, .iastore, 1), (255, .goto 12, 3), (258, .aload_n 0, 1), (259, .iconst 1, 1), (260, .aload_n 0, 1), (261, .getfield 120, 3), (264, .invokevirtual 168, 3), (267, .aload_n 0, 1), (268, .bipush 59, 2), (270, .invokevirtual 181, 3), (273, .return_, 1)]
theorem dX12_readLine : ∀ q ∈ tX12_readLine, decode mX12_readLine.2.1 q.1 = .ok q.2 := by decide +kernel
def tX12_text : IT := [(0, .aload_n 0, 1), (1, .aload_n 0, 1), (2, .getfield 92, 3), (5, .putfield 110, 3), (8, .aload_n 0, 1), (9, .iconst 0, 1), (10, .putfield 92, 3), (13, .aload_n 0, 1), (14, .iconst 0, 1), (15, .putfield 113, 3), (18, .aload_n 0, 1), (19, .iconst 0, 1), (20, .putfield 103, 3), (23, .aload_n 0, 1), (24, .iconst (-1), 1), (25, .putfield 56, 3), (28, .aload_n 0, 1), (29, .iconst 0, 1), (30, .putfield 184, 3), (33, .aload_n 0, 1), (34, .iconst 0, 1), (35, .putfield 286, 3), (38, .aload_n 0, 1), (39, .iconst 0, 1), (40, .putfield 255, 3), (43, .aload_n 0, 1), (44, .iconst 0, 1), (45, .putfield 268, 3), (48, .aload_n 0, 1), (49, .iconst 0, 1), (50, .putfield 212, 3), (53, .aload_n 0, 1), (54, .iconst 0, 1), (55, .putfield 260, 3), (58, .iconst 0, 1), (59, .istore_n 1, 1), (60, .iload_n 1, 1), (61, .bipush 80, 2), (63, .if_icmp .ge 30, 3), (66, .aload_n 0, 1), (67, .getfield 43, 3), (70, .iload_n 1, 1), (71, .iconst (-1), 1), (72, .iastore, 1), (73, .aload_n 0, 1), (74, .getfield 46, 3), (77, .iload_n 1, 1), (78, .iconst (-1), 1), (79, .iastore, 1), (80, .aload_n 0, 1), (81, .getfield 49, 3), (84, .iload_n 1, 1), (85, .iconst (-1), 1), (86, .iastore, 1), (87, .iinc 1 1, 3), (90, .goto (-30), 3), (93, .aload_n 0, 1), (94, .invokevirtual 158, 3), (97, .iconst 0, 1), (98, .istore_n 1, 1), (99, .aload_n 0, 1), (100, .invokevirtual 106, 3), (103, .ifCond .eq 20, 3), (106, .aload_n 0, 1), (107, .getfield 123, 3), (110, .ifCond .eq 13, 3), (113, .aload_n 0, 1), (114, .invokevirtual 294, 3), (117, .iinc 1 1, 3), (120, .goto (-21), 3), (123, .aload_n 0, 1), (124, .invokevirtual 106, 3), (127, .ifCond .ne 6, 3), (130, .bipush (-4), 2), (132, .ireturn, 1), (133, .aload_n 0, 1), (134, .iconst 1, 1), (135, .putfield 297, 3), (138, .aload_n 0, 1), (139, .aload_n 0, 1), (140, .getfield 184, 3), (143, .putfield 300, 3), (146, .aload_n 0, 1), (147, .aload_n 0, 1), (148, .getfield 286, 3), (151, .putfield 303, 3), (154, .aload_n 0, 1), (155, .aload_n 0, 1), (156, .getfield 255, 3), (159, .putfield 306, 3), (162, .aload_n 0, 1), (163, .aload_n 0, 1), (164, .getfield 268, 3), (167, .putfield 309, 3), (170, .iconst 0, 1), (171, .istore_n 2, 1), (172, .iload_n 2, 1), (173, .sipush 220, 3), (176, .if_icmp .ge 21, 3), (179, .aload_n 0, 1), (180, .getfield 9, 3), (183, .iload_n 2, 1), (184, .aload_n 0, 1), (185, .getfield 31, 3), (188, .iload_n 2, 1), (189, .iaload, 1), (190, .iastore, 1), (191, .iinc 2 1, 3), (194, .goto (-22), 3), (197, .iconst 0, 1), (198, .istore_n 2, 1), (199, .iload_n 2, 1), (200, .aload_n 0, 1), (201, .getfield 306, 3), (204, .if_icmp .ge 21, 3), (207, .aload_n 0, 1), (208, .getfield 13, 3), (211, .iload_n 2, 1), (212, .aload_n 0, 1), (213, .getfield 34, 3), (216, .iload_n 2, 1), (217, .iaload, 1), (218, .iastore, 1), (219, .iinc 2 1, 3), (222, .goto (-23), 3), (225, .iconst 0, 1), (226, .istore_n 2, 1), (227, .iload_n 2, 1), (228, .aload_n 0, 1), (229, .getfield 306, 3), (232, .if_icmp .gt 21, 3), (235, .aload_n 0, 1), (236, .getfield 16, 3), (239, .iload_n 2, 1), (240, .aload_n 0, 1), (241, .getfield 37, 3), (244, .iload_n 2, 1), (245, .iaload, 1), (246, .iastore, 1), (247, .iinc 2 1, 3), (250, .goto (-23), 3), (253, .iconst 0, 1), (254, .istore_n 2, 1), (255, .iload_n 2, 1), (256, .aload_n 0, 1), (257, .getfield 212, 3), (260, .if_icmp .ge 21, 3), (263, .aload_n 0, 1), (264, .getfield 19, 3), (267, .iload_n 2, 1), (268, .aload_n 0, 1), (269, .getfield 40, 3), (272, .iload_n 2, 1), (273, .iaload, 1), (274, .iastore, 1), (275, .iinc 2 1, 3), (278, .goto (-23), 3), (281, .iconst 0, 1), (282, .istore_n 2, 1), (283, .iload_n 2, 1), (284, .bipush 80, 2), (286, .if_icmp .ge 45, 3), (289, .aload_n 0, 1), (290, .getfield 22, 3), (293, .iload_n 2, 1), (294, .aload_n 0, 1), (295, .getfield 43, 3), (298, .iload_n 2, 1), (299, .iaload, 1), (300, .iastore, 1), (301, .aload_n 0, 1), (302, .getfield 25, 3), (305, .iload_n 2, 1), (306, .aload_n 0, 1), (307, .getfield 46, 3), (310, .iload_n 2, 1), (311, .iaload, 1), (312, .iastore, 1), (313, .aload_n 0, 1), (314, .getfield 28, 3), (317, .iload_n 2, 1), (318, .aload_n 0, 1), (319, .getfield 49, 3), (322, .iload_n 2, 1), (323, .iaload, 1), (324, .iastore, 1), (325, .iinc 2 1, 3), (328, .goto (-45), 3), (331, .aload_n 0, 1), (332, .iconst 0, 1), (333, .putfield 311, 3), (336, .iload_n 1, 1), (337, .ireturn, 1)]
theorem dX12_text : ∀ q ∈ tX12_text, decode mX12_text.2.1 q.1 = .ok q.2 := by decide +kernel
def tX12_fault : IT := [(0, .iload_n 1, 1), (1, .ifCond .ne 10, 3), (4, .aload_n 0, 1), (5, .getfield 103, 3), (8, .goto 16, 3), (11, .iload_n 1, 1), (12, .iconst 1, 1), (13, .if_icmp .ne 10, 3), (16, .aload_n 0, 1), (17, .getfield 56, 3), (20, .goto 4, 3), (23, .iconst (-1), 1), (24, .ireturn, 1)]
theorem dX12_fault : ∀ q ∈ tX12_fault, decode mX12_fault.2.1 q.1 = .ok q.2 := by decide +kernel
def tX12_count : IT := [(0, .iload_n 1, 1), (1, .tableswitch 95 0 7 #[47, 52, 57, 62, 67, 72, 85, 90], 47), (48, .aload_n 0, 1), (49, .getfield 300, 3), (52, .ireturn, 1), (53, .aload_n 0, 1), (54, .getfield 303, 3), (57, .ireturn, 1), (58, .aload_n 0, 1), (59, .getfield 306, 3), (62, .ireturn, 1), (63, .aload_n 0, 1), (64, .getfield 309, 3), (67, .ireturn, 1), (68, .aload_n 0, 1), (69, .getfield 311, 3), (72, .ireturn, 1), (73, .aload_n 0, 1), (74, .getfield 297, 3), (77, .ifCond .eq 7, 3), (80, .iconst 1, 1), (81, .goto 4, 3), (84, .iconst 0, 1), (85, .ireturn, 1), (86, .aload_n 0, 1), (87, .getfield 92, 3), (90, .ireturn, 1), (91, .aload_n 0, 1), (92, .getfield 314, 3), (95, .ireturn, 1), (96, .iconst (-1), 1), (97, .ireturn, 1)]
theorem dX12_count : ∀ q ∈ tX12_count, decode mX12_count.2.1 q.1 = .ok q.2 := by decide +kernel
def tX12_isEvent : IT := [(0, .iload_n 1, 1), (1, .i2l, 1), (2, .lconst 0, 1), (3, .aload_n 0, 1), (4, .getfield 300, 3), (7, .iconst 1, 1), (8, .isub, 1), (9, .i2l, 1), (10, .invokestatic 99, 3), (13, .ireturn, 1)]
theorem dX12_isEvent : ∀ q ∈ tX12_isEvent, decode mX12_isEvent.2.1 q.1 = .ok q.2 := by decide +kernel
def tX12_isOne : IT := [(0, .iload_n 1, 1), (1, .i2l, 1), (2, .lconst 0, 1), (3, .aload_n 0, 1), (4, .getfield 303, 3), (7, .iconst 1, 1), (8, .isub, 1), (9, .i2l, 1), (10, .invokestatic 99, 3), (13, .ireturn, 1)]
theorem dX12_isOne : ∀ q ∈ tX12_isOne, decode mX12_isOne.2.1 q.1 = .ok q.2 := by decide +kernel
def tX12_isMark : IT := [(0, .iload_n 0, 1), (1, .i2l, 1), (2, .lconst 0, 1), (3, .ldc2_w 175, 3), (6, .invokestatic 99, 3), (9, .ireturn, 1)]
theorem dX12_isMark : ∀ q ∈ tX12_isMark, decode mX12_isMark.2.1 q.1 = .ok q.2 := by decide +kernel
def tX12_isBoth : IT := [(0, .aload_n 0, 1), (1, .iload_n 1, 1), (2, .invokevirtual 317, 3), (5, .ifCond .eq 15, 3), (8, .aload_n 0, 1), (9, .iload_n 2, 1), (10, .invokevirtual 320, 3), (13, .ifCond .eq 7, 3), (16, .iconst 1, 1), (17, .goto 4, 3), (20, .iconst 0, 1), (21, .ireturn, 1)]
theorem dX12_isBoth : ∀ q ∈ tX12_isBoth, decode mX12_isBoth.2.1 q.1 = .ok q.2 := by decide +kernel
def tX12_ofEvent : IT := [(0, .aload_n 0, 1), (1, .getfield 9, 3), (4, .bipush 22, 2), (6, .iload_n 1, 1), (7, .imul, 1), (8, .iload_n 2, 1), (9, .iadd, 1), (10, .iaload, 1), (11, .ireturn, 1)]
theorem dX12_ofEvent : ∀ q ∈ tX12_ofEvent, decode mX12_ofEvent.2.1 q.1 = .ok q.2 := by decide +kernel
def tX12_event : IT := [(0, .aload_n 0, 1), (1, .iload_n 1, 1), (2, .invokevirtual 320, 3), (5, .ifCond .eq 24, 3), (8, .iload_n 2, 1), (9, .i2l, 1), (10, .lconst 0, 1), (11, .ldc2_w 323, 3), (14, .invokestatic 99, 3), (17, .ifCond .eq 12, 3), (20, .aload_n 0, 1), (21, .iload_n 1, 1), (22, .iload_n 2, 1), (23, .invokevirtual 325, 3), (26, .goto 5, 3), (29, .bipush (-2), 2), (31, .ireturn, 1)]
theorem dX12_event : ∀ q ∈ tX12_event, decode mX12_event.2.1 q.1 = .ok q.2 := by decide +kernel
def tX12_rootOf : IT := [(0, .lconst 0, 1), (1, .lstore_n 2, 1), (2, .ldc2_w 328, 3), (5, .lstore 4, 2), (7, .lload_n 2, 1), (8, .lload 4, 2), (10, .lcmp, 1), (11, .ifCond .ge 40, 3), (14, .lload_n 2, 1), (15, .lload 4, 2), (17, .ladd, 1), (18, .lconst 1, 1), (19, .ladd, 1), (20, .ldc2_w 330, 3), (23, .ldiv, 1), (24, .lstore 6, 2), (26, .lload 6, 2), (28, .lload 6, 2), (30, .lmul, 1), (31, .lload_n 0, 1), (32, .lcmp, 1), (33, .ifCond .gt 9, 3), (36, .lload 6, 2), (38, .lstore_n 2, 1), (39, .goto 9, 3), (42, .lload 6, 2), (44, .lconst 1, 1), (45, .lsub, 1), (46, .lstore 4, 2), (48, .goto (-41), 3), (51, .lload_n 2, 1), (52, .lreturn, 1)]
theorem dX12_rootOf : ∀ q ∈ tX12_rootOf, decode mX12_rootOf.2.1 q.1 = .ok q.2 := by decide +kernel
def tX12_tableOf : IT := [(0, .aload_n 0, 1), (1, .iload_n 1, 1), (2, .iconst 3, 1), (3, .invokevirtual 325, 3), (6, .iconst 1, 1), (7, .isub, 1), (8, .istore 4, 2), (10, .iconst (-1), 1), (11, .istore 5, 2), (13, .iload 5, 2), (15, .iload 4, 2), (17, .if_icmp .ge 29, 3), (20, .lload_n 2, 1), (21, .aload_n 0, 1), (22, .iload_n 1, 1), (23, .bipush 6, 2), (25, .iconst 2, 1), (26, .iload 5, 2), (28, .iconst 1, 1), (29, .iadd, 1), (30, .imul, 1), (31, .iadd, 1), (32, .invokevirtual 325, 3), (35, .i2l, 1), (36, .lcmp, 1), (37, .ifCond .lt 9, 3), (40, .iinc 5 1, 3), (43, .goto (-30), 3), (46, .iload 5, 2), (48, .iconst (-1), 1), (49, .if_icmp .ne 5, 3), (52, .lconst 0, 1), (53, .lreturn, 1), (54, .aload_n 0, 1), (55, .iload_n 1, 1), (56, .bipush 6, 2), (58, .iconst 2, 1), (59, .iload 5, 2), (61, .imul, 1), (62, .iadd, 1), (63, .iconst 1, 1), (64, .iadd, 1), (65, .invokevirtual 325, 3), (68, .i2l, 1), (69, .lstore 6, 2), (71, .iload 5, 2), (73, .iload 4, 2), (75, .if_icmp .ne 6, 3), (78, .lload 6, 2), (80, .lreturn, 1), (81, .aload_n 0, 1), (82, .iload_n 1, 1), (83, .bipush 6, 2), (85, .iconst 2, 1), (86, .iload 5, 2), (88, .imul, 1), (89, .iadd, 1), (90, .invokevirtual 325, 3), (93, .i2l, 1), (94, .lstore 8, 2), (96, .aload_n 0, 1), (97, .iload_n 1, 1), (98, .bipush 6, 2), (100, .iconst 2, 1), (101, .iload 5, 2), (103, .imul, 1), (104, .iadd, 1), (105, .iconst 2, 1), (106, .iadd, 1), (107, .invokevirtual 325, 3), (110, .i2l, 1), (111, .lload 8, 2), (113, .lsub, 1), (114, .lstore 10, 2), (116, .lload 6, 2), (118, .lload_n 2, 1), (119, .lload 8, 2), (121, .lsub, 1), (122, .aload_n 0, 1), (123, .iload_n 1, 1), (124, .bipush 6, 2), (126, .iconst 2, 1), (127, .iload 5, 2), (129, .imul, 1), (130, .iadd, 1), (131, .iconst 3, 1), (132, .iadd, 1), (133, .invokevirtual 325, 3), (136, .i2l, 1), (137, .lload 6, 2), (139, .lsub, 1), (140, .lmul, 1), (141, .lload 10, 2), (143, .ldiv, 1), (144, .ladd, 1), (145, .lreturn, 1)]
theorem dX12_tableOf : ∀ q ∈ tX12_tableOf, decode mX12_tableOf.2.1 q.1 = .ok q.2 := by decide +kernel
def tX12_pointsOf : IT := [(0, .iload_n 2, 1), (1, .iconst (-1), 1), (2, .if_icmp .ne 5, 3), (5, .iconst 0, 1), (6, .ireturn, 1), (7, .aload_n 0, 1), (8, .iload_n 1, 1), (9, .iconst 0, 1), (10, .invokevirtual 325, 3), (13, .iconst 1, 1), (14, .if_icmp .ne 15, 3), (17, .iload_n 2, 1), (18, .aload_n 0, 1), (19, .iload_n 1, 1), (20, .iconst 1, 1), (21, .invokevirtual 325, 3), (24, .isub, 1), (25, .i2l, 1), (26, .goto 12, 3), (29, .aload_n 0, 1), (30, .iload_n 1, 1), (31, .iconst 1, 1), (32, .invokevirtual 325, 3), (35, .iload_n 2, 1), (36, .isub, 1), (37, .i2l, 1), (38, .lstore_n 3, 1), (39, .lload_n 3, 1), (40, .lconst 0, 1), (41, .lcmp, 1), (42, .ifCond .ge 5, 3), (45, .iconst 0, 1), (46, .ireturn, 1), (47, .aload_n 0, 1), (48, .iload_n 1, 1), (49, .iconst 3, 1), (50, .invokevirtual 325, 3), (53, .i2l, 1), (54, .lstore 5, 2), (56, .aload_n 0, 1), (57, .iload_n 1, 1), (58, .iconst 4, 1), (59, .invokevirtual 325, 3), (62, .i2l, 1), (63, .lstore 7, 2), (65, .aload_n 0, 1), (66, .iload_n 1, 1), (67, .iconst 2, 1), (68, .invokevirtual 325, 3), (71, .istore 9, 2), (73, .iload 9, 2), (75, .ifCond .ne 13, 3), (78, .lload 5, 2), (80, .lload_n 3, 1), (81, .lmul, 1), (82, .lload 7, 2), (84, .ldiv, 1), (85, .goto 50, 3), (88, .iload 9, 2), (90, .iconst 1, 1), (91, .if_icmp .ne 15, 3), (94, .lload 5, 2), (96, .lload_n 3, 1), (97, .lmul, 1), (98, .lload_n 3, 1), (99, .lmul, 1), (100, .lload 7, 2), (102, .ldiv, 1), (103, .goto 32, 3), (106, .iload 9, 2), (108, .iconst 2, 1), (109, .if_icmp .ne 20, 3), (112, .lload 5, 2), (114, .ldc2_w 332, 3), (117, .lload_n 3, 1), (118, .lmul, 1), (119, .invokestatic 334, 3), (122, .lmul, 1), (123, .lload 7, 2), (125, .ldiv, 1), (126, .goto 9, 3), (129, .aload_n 0, 1), (130, .iload_n 1, 1), (131, .lload_n 3, 1), (132, .invokevirtual 338, 3), (135, .lstore 10, 2), (137, .ldc2_w 342, 3), (140, .lload 10, 2), (142, .invokestatic 344, 3), (145, .l2i, 1), (146, .ireturn, 1)]
theorem dX12_pointsOf : ∀ q ∈ tX12_pointsOf, decode mX12_pointsOf.2.1 q.1 = .ok q.2 := by decide +kernel
def tX12_points : IT := [(0, .aload_n 0, 1), (1, .iload_n 1, 1), (2, .invokevirtual 320, 3), (5, .ifCond .eq 19, 3), (8, .iload_n 2, 1), (9, .invokestatic 347, 3), (12, .ifCond .eq 12, 3), (15, .aload_n 0, 1), (16, .iload_n 1, 1), (17, .iload_n 2, 1), (18, .invokevirtual 350, 3), (21, .goto 5, 3), (24, .bipush (-2), 2), (26, .ireturn, 1)]
theorem dX12_points : ∀ q ∈ tX12_points, decode mX12_points.2.1 q.1 = .ok q.2 := by decide +kernel
def tX12_markBy : IT := [(0, .aload_n 0, 1), (1, .iload_n 1, 1), (2, .iconst 0, 1), (3, .invokevirtual 325, 3), (6, .iconst 1, 1), (7, .if_icmp .ne 7, 3), (10, .iload_n 2, 1), (11, .goto 7, 3), (14, .ldc 177, 2), (16, .iload_n 2, 1), (17, .isub, 1), (18, .ireturn, 1)]
theorem dX12_markBy : ∀ q ∈ tX12_markBy, decode mX12_markBy.2.1 q.1 = .ok q.2 := by decide +kernel
def tX12_topOf : IT := [(0, .aload_n 0, 1), (1, .iload_n 1, 1), (2, .aload_n 0, 1), (3, .iload_n 1, 1), (4, .ldc 177, 2), (6, .invokevirtual 353, 3), (9, .invokevirtual 350, 3), (12, .ireturn, 1)]
theorem dX12_topOf : ∀ q ∈ tX12_topOf, decode mX12_topOf.2.1 q.1 = .ok q.2 := by decide +kernel
def tX12_worstOf : IT := [(0, .aload_n 0, 1), (1, .iload_n 1, 1), (2, .invokevirtual 356, 3), (5, .iload_n 2, 1), (6, .if_icmp .ge 5, 3), (9, .iconst (-1), 1), (10, .ireturn, 1), (11, .iconst 0, 1), (12, .istore_n 3, 1), (13, .ldc 177, 2), (15, .istore 4, 2), (17, .iload_n 3, 1), (18, .iload 4, 2), (20, .if_icmp .ge 42, 3), (23, .iload_n 3, 1), (24, .iload 4, 2), (26, .iadd, 1), (27, .iconst 2, 1), (28, .idiv, 1), (29, .istore 5, 2), (31, .aload_n 0, 1), (32, .iload_n 1, 1), (33, .aload_n 0, 1), (34, .iload_n 1, 1), (35, .iload 5, 2), (37, .invokevirtual 353, 3), (40, .invokevirtual 350, 3), (43, .iload_n 2, 1), (44, .if_icmp .lt 10, 3), (47, .iload 5, 2), (49, .istore 4, 2), (51, .goto 8, 3), (54, .iload 5, 2), (56, .iconst 1, 1), (57, .iadd, 1), (58, .istore_n 3, 1), (59, .goto (-42), 3), (62, .aload_n 0, 1), (63, .iload_n 1, 1), (64, .iload_n 3, 1), (65, .invokevirtual 353, 3), (68, .ireturn, 1)]
theorem dX12_worstOf : ∀ q ∈ tX12_worstOf, decode mX12_worstOf.2.1 q.1 = .ok q.2 := by decide +kernel
def tX12_worst : IT := [(0, .aload_n 0, 1), (1, .iload_n 1, 1), (2, .invokevirtual 320, 3), (5, .ifCond .eq 24, 3), (8, .iload_n 2, 1), (9, .i2l, 1), (10, .lconst 0, 1), (11, .ldc2_w 342, 3), (14, .invokestatic 99, 3), (17, .ifCond .eq 12, 3), (20, .aload_n 0, 1), (21, .iload_n 1, 1), (22, .iload_n 2, 1), (23, .invokevirtual 359, 3), (26, .goto 5, 3), (29, .bipush (-2), 2), (31, .ireturn, 1)]
theorem dX12_worst : ∀ q ∈ tX12_worst, decode mX12_worst.2.1 q.1 = .ok q.2 := by decide +kernel
def tX12_top : IT := [(0, .aload_n 0, 1), (1, .iload_n 1, 1), (2, .invokevirtual 320, 3), (5, .ifCond .eq 11, 3), (8, .aload_n 0, 1), (9, .iload_n 1, 1), (10, .invokevirtual 356, 3), (13, .goto 5, 3), (16, .bipush (-2), 2), (18, .ireturn, 1)]
theorem dX12_top : ∀ q ∈ tX12_top, decode mX12_top.2.1 q.1 = .ok q.2 := by decide +kernel
def tX12_same : IT := [(0, .aload_n 0, 1), (1, .iload_n 1, 1), (2, .invokevirtual 320, 3), (5, .ifCond .eq 32, 3), (8, .iload_n 2, 1), (9, .invokestatic 347, 3), (12, .ifCond .eq 25, 3), (15, .aload_n 0, 1), (16, .iload_n 3, 1), (17, .invokevirtual 320, 3), (20, .ifCond .eq 17, 3), (23, .aload_n 0, 1), (24, .iload_n 3, 1), (25, .aload_n 0, 1), (26, .iload_n 1, 1), (27, .iload_n 2, 1), (28, .invokevirtual 350, 3), (31, .invokevirtual 359, 3), (34, .goto 5, 3), (37, .bipush (-2), 2), (39, .ireturn, 1)]
theorem dX12_same : ∀ q ∈ tX12_same, decode mX12_same.2.1 q.1 = .ok q.2 := by decide +kernel
def tX12_step : IT := [(0, .aload_n 0, 1), (1, .iload_n 1, 1), (2, .invokevirtual 320, 3), (5, .ifCond .eq 10, 3), (8, .iload_n 2, 1), (9, .invokestatic 347, 3), (12, .ifCond .ne 6, 3), (15, .bipush (-2), 2), (17, .ireturn, 1), (18, .aload_n 0, 1), (19, .iload_n 1, 1), (20, .iload_n 2, 1), (21, .invokevirtual 350, 3), (24, .iconst 1, 1), (25, .iadd, 1), (26, .istore_n 3, 1), (27, .iload_n 3, 1), (28, .sipush 2000, 3), (31, .if_icmp .le 7, 3), (34, .iconst (-1), 1), (35, .goto 9, 3), (38, .aload_n 0, 1), (39, .iload_n 1, 1), (40, .iload_n 3, 1), (41, .invokevirtual 359, 3), (44, .istore 4, 2), (46, .iload 4, 2), (48, .iconst (-1), 1), (49, .if_icmp .ne 7, 3), (52, .iconst (-1), 1), (53, .goto 10, 3), (56, .iload 4, 2), (58, .iload_n 2, 1), (59, .isub, 1), (60, .invokestatic 362, 3), (63, .ireturn, 1)]
theorem dX12_step : ∀ q ∈ tX12_step, decode mX12_step.2.1 q.1 = .ok q.2 := by decide +kernel
def tX12_lays : IT := [(0, .iconst 0, 1), (1, .istore_n 2, 1), (2, .iload_n 2, 1), (3, .aload_n 0, 1), (4, .getfield 303, 3), (7, .if_icmp .ge 69, 3), (10, .iconst 0, 1), (11, .istore_n 3, 1), (12, .iload_n 3, 1), (13, .aload_n 0, 1), (14, .getfield 300, 3), (17, .if_icmp .ge 53, 3), (20, .bipush 10, 2), (22, .iload_n 2, 1), (23, .imul, 1), (24, .iload_n 3, 1), (25, .iadd, 1), (26, .istore 4, 2), (28, .aload_n 0, 1), (29, .getfield 60, 3), (32, .iload 4, 2), (34, .aload_n 0, 1), (35, .iload_n 3, 1), (36, .aload_n 1, 1), (37, .iload 4, 2), (39, .iaload, 1), (40, .invokevirtual 350, 3), (43, .iastore, 1), (44, .aload_n 0, 1), (45, .getfield 63, 3), (48, .iload 4, 2), (50, .aload_n 1, 1), (51, .iload 4, 2), (53, .iaload, 1), (54, .iconst (-1), 1), (55, .if_icmp .eq 7, 3), (58, .iconst 1, 1), (59, .goto 4, 3), (62, .iconst 0, 1), (63, .bastore, 1), (64, .iinc 3 1, 3), (67, .goto (-55), 3), (70, .iinc 2 1, 3), (73, .goto (-71), 3), (76, .return_, 1)]
theorem dX12_lays : ∀ q ∈ tX12_lays, decode mX12_lays.2.1 q.1 = .ok q.2 := by decide +kernel
def tX12_sumOf : IT := [(0, .iconst 0, 1), (1, .istore_n 2, 1), (2, .iconst 0, 1), (3, .istore_n 3, 1), (4, .iload_n 3, 1), (5, .aload_n 0, 1), (6, .getfield 300, 3), (9, .if_icmp .ge 23, 3), (12, .iload_n 2, 1), (13, .aload_n 0, 1), (14, .getfield 60, 3), (17, .bipush 10, 2), (19, .iload_n 1, 1), (20, .imul, 1), (21, .iload_n 3, 1), (22, .iadd, 1), (23, .iaload, 1), (24, .iadd, 1), (25, .istore_n 2, 1), (26, .iinc 3 1, 3), (29, .goto (-25), 3), (32, .iload_n 2, 1), (33, .ireturn, 1)]
theorem dX12_sumOf : ∀ q ∈ tX12_sumOf, decode mX12_sumOf.2.1 q.1 = .ok q.2 := by decide +kernel
def tX12_doneOf : IT := [(0, .iconst 0, 1), (1, .istore_n 2, 1), (2, .iconst 0, 1), (3, .istore_n 3, 1), (4, .iload_n 3, 1), (5, .aload_n 0, 1), (6, .getfield 300, 3), (9, .if_icmp .ge 31, 3), (12, .iload_n 2, 1), (13, .aload_n 0, 1), (14, .getfield 63, 3), (17, .bipush 10, 2), (19, .iload_n 1, 1), (20, .imul, 1), (21, .iload_n 3, 1), (22, .iadd, 1), (23, .baload, 1), (24, .ifCond .eq 7, 3), (27, .iconst 1, 1), (28, .goto 4, 3), (31, .iconst 0, 1), (32, .iadd, 1), (33, .istore_n 2, 1), (34, .iinc 3 1, 3), (37, .goto (-33), 3), (40, .iload_n 2, 1), (41, .ireturn, 1)]
theorem dX12_doneOf : ∀ q ∈ tX12_doneOf, decode mX12_doneOf.2.1 q.1 = .ok q.2 := by decide +kernel
def tX12_bestOf : IT := [(0, .iconst 0, 1), (1, .istore_n 2, 1), (2, .iconst 0, 1), (3, .istore_n 3, 1), (4, .iload_n 3, 1), (5, .aload_n 0, 1), (6, .getfield 300, 3), (9, .if_icmp .ge 39, 3), (12, .aload_n 0, 1), (13, .getfield 63, 3), (16, .bipush 10, 2), (18, .iload_n 1, 1), (19, .imul, 1), (20, .iload_n 3, 1), (21, .iadd, 1), (22, .baload, 1), (23, .ifCond .eq 19, 3), (26, .iload_n 2, 1), (27, .aload_n 0, 1), (28, .getfield 60, 3), (31, .bipush 10, 2), (33, .iload_n 1, 1), (34, .imul, 1), (35, .iload_n 3, 1), (36, .iadd, 1), (37, .iaload, 1), (38, .invokestatic 365, 3), (41, .istore_n 2, 1), (42, .iinc 3 1, 3), (45, .goto (-41), 3), (48, .iload_n 2, 1), (49, .ireturn, 1)]
theorem dX12_bestOf : ∀ q ∈ tX12_bestOf, decode mX12_bestOf.2.1 q.1 = .ok q.2 := by decide +kernel
def tX12_leastOf : IT := [(0, .iconst (-1), 1), (1, .istore_n 2, 1), (2, .iconst 0, 1), (3, .istore_n 3, 1), (4, .iload_n 3, 1), (5, .aload_n 0, 1), (6, .getfield 300, 3), (9, .if_icmp .ge 58, 3), (12, .aload_n 0, 1), (13, .getfield 63, 3), (16, .bipush 10, 2), (18, .iload_n 1, 1), (19, .imul, 1), (20, .iload_n 3, 1), (21, .iadd, 1), (22, .baload, 1), (23, .ifCond .eq 38, 3), (26, .iload_n 2, 1), (27, .iconst (-1), 1), (28, .if_icmp .ne 17, 3), (31, .aload_n 0, 1), (32, .getfield 60, 3), (35, .bipush 10, 2), (37, .iload_n 1, 1), (38, .imul, 1), (39, .iload_n 3, 1), (40, .iadd, 1), (41, .iaload, 1), (42, .goto 18, 3), (45, .iload_n 2, 1), (46, .aload_n 0, 1), (47, .getfield 60, 3), (50, .bipush 10, 2), (52, .iload_n 1, 1), (53, .imul, 1), (54, .iload_n 3, 1), (55, .iadd, 1), (56, .iaload, 1), (57, .invokestatic 138, 3), (60, .istore_n 2, 1), (61, .iinc 3 1, 3), (64, .goto (-60), 3), (67, .iload_n 2, 1), (68, .iconst (-1), 1), (69, .if_icmp .ne 7, 3), (72, .iconst 0, 1), (73, .goto 4, 3), (76, .iload_n 2, 1), (77, .ireturn, 1)]
theorem dX12_leastOf : ∀ q ∈ tX12_leastOf, decode mX12_leastOf.2.1 q.1 = .ok q.2 := by decide +kernel
def tX12_winsOf : IT := [(0, .iconst 0, 1), (1, .istore_n 2, 1), (2, .iconst 0, 1), (3, .istore_n 3, 1), (4, .iload_n 3, 1), (5, .aload_n 0, 1), (6, .getfield 300, 3), (9, .if_icmp .ge 94, 3), (12, .aload_n 0, 1), (13, .getfield 60, 3), (16, .bipush 10, 2), (18, .iload_n 1, 1), (19, .imul, 1), (20, .iload_n 3, 1), (21, .iadd, 1), (22, .iaload, 1), (23, .istore 4, 2), (25, .iload 4, 2), (27, .ifCond .le 7, 3), (30, .iconst 1, 1), (31, .goto 4, 3), (34, .iconst 0, 1), (35, .istore 5, 2), (37, .iconst 0, 1), (38, .istore 6, 2), (40, .iload 6, 2), (42, .aload_n 0, 1), (43, .getfield 303, 3), (46, .if_icmp .ge 38, 3), (49, .iload 5, 2), (51, .ifCond .eq 33, 3), (54, .aload_n 0, 1), (55, .getfield 60, 3), (58, .bipush 10, 2), (60, .iload 6, 2), (62, .imul, 1), (63, .iload_n 3, 1), (64, .iadd, 1), (65, .iaload, 1), (66, .iload 4, 2), (68, .if_icmp .gt 7, 3), (71, .iconst 1, 1), (72, .goto 4, 3), (75, .iconst 0, 1), (76, .istore 5, 2), (78, .iinc 6 1, 3), (81, .goto (-41), 3), (84, .iload_n 2, 1), (85, .iload 5, 2), (87, .ifCond .eq 7, 3), (90, .iconst 1, 1), (91, .goto 4, 3), (94, .iconst 0, 1), (95, .iadd, 1), (96, .istore_n 2, 1), (97, .iinc 3 1, 3), (100, .goto (-96), 3), (103, .iload_n 2, 1), (104, .ireturn, 1)]
theorem dX12_winsOf : ∀ q ∈ tX12_winsOf, decode mX12_winsOf.2.1 q.1 = .ok q.2 := by decide +kernel
def tX12_two : IT := [(0, .iload_n 0, 1), (1, .tableswitch 91 6 12 #[43, 47, 51, 63, 75, 91, 87], 43), (44, .lload_n 1, 1), (45, .lload_n 3, 1), (46, .ladd, 1), (47, .lreturn, 1), (48, .lload_n 1, 1), (49, .lload_n 3, 1), (50, .lsub, 1), (51, .lreturn, 1), (52, .lload_n 1, 1), (53, .lload_n 3, 1), (54, .lcmp, 1), (55, .ifCond .ge 7, 3), (58, .lconst 1, 1), (59, .goto 4, 3), (62, .lconst 0, 1), (63, .lreturn, 1), (64, .lload_n 1, 1), (65, .lload_n 3, 1), (66, .lcmp, 1), (67, .ifCond .ne 7, 3), (70, .lconst 1, 1), (71, .goto 4, 3), (74, .lconst 0, 1), (75, .lreturn, 1), (76, .lload_n 1, 1), (77, .lload_n 3, 1), (78, .lcmp, 1), (79, .ifCond .le 7, 3), (82, .lconst 1, 1), (83, .goto 4, 3), (86, .lconst 0, 1), (87, .lreturn, 1), (88, .lload_n 1, 1), (89, .lload_n 3, 1), (90, .land, 1), (91, .lreturn, 1), (92, .lload_n 1, 1), (93, .lload_n 3, 1), (94, .lor, 1), (95, .lreturn, 1)]
theorem dX12_two : ∀ q ∈ tX12_two, decode mX12_two.2.1 q.1 = .ok q.2 := by decide +kernel
def tX12_asked : IT := [(0, .iload_n 1, 1), (1, .tableswitch 72 0 4 #[35, 38, 51, 58, 65], 35), (36, .iload_n 2, 1), (37, .i2l, 1), (38, .lreturn, 1), (39, .aload_n 0, 1), (40, .getfield 60, 3), (43, .bipush 10, 2), (45, .iload_n 3, 1), (46, .imul, 1), (47, .iload_n 2, 1), (48, .iadd, 1), (49, .iaload, 1), (50, .i2l, 1), (51, .lreturn, 1), (52, .aload_n 0, 1), (53, .iload_n 3, 1), (54, .invokevirtual 368, 3), (57, .i2l, 1), (58, .lreturn, 1), (59, .aload_n 0, 1), (60, .iload_n 3, 1), (61, .invokevirtual 371, 3), (64, .i2l, 1), (65, .lreturn, 1), (66, .aload_n 0, 1), (67, .iload_n 3, 1), (68, .invokevirtual 374, 3), (71, .i2l, 1), (72, .lreturn, 1), (73, .aload_n 0, 1), (74, .iload_n 3, 1), (75, .invokevirtual 377, 3), (78, .i2l, 1), (79, .lreturn, 1)]
theorem dX12_asked : ∀ q ∈ tX12_asked, decode mX12_asked.2.1 q.1 = .ok q.2 := by decide +kernel
def tX12_isSo : IT := [(0, .iconst 0, 1), (1, .istore_n 3, 1), (2, .aload_n 0, 1), (3, .getfield 16, 3), (6, .iload_n 1, 1), (7, .iaload, 1), (8, .istore 4, 2), (10, .iload 4, 2), (12, .aload_n 0, 1), (13, .getfield 16, 3), (16, .iload_n 1, 1), (17, .iconst 1, 1), (18, .iadd, 1), (19, .iaload, 1), (20, .if_icmp .ge 114, 3), (23, .aload_n 0, 1), (24, .getfield 19, 3), (27, .iload 4, 2), (29, .iaload, 1), (30, .bipush 16, 2), (32, .irem, 1), (33, .istore 5, 2), (35, .iload 5, 2), (37, .iconst 5, 1), (38, .if_icmp .gt 32, 3), (41, .aload_n 0, 1), (42, .getfield 67, 3), (45, .iload_n 3, 1), (46, .aload_n 0, 1), (47, .iload 5, 2), (49, .aload_n 0, 1), (50, .getfield 19, 3), (53, .iload 4, 2), (55, .iaload, 1), (56, .bipush 16, 2), (58, .idiv, 1), (59, .iload_n 2, 1), (60, .invokevirtual 380, 3), (63, .lastore, 1), (64, .iinc 3 1, 3), (67, .goto 61, 3), (70, .iload 5, 2), (72, .bipush 11, 2), (74, .if_icmp .ne 24, 3), (77, .aload_n 0, 1), (78, .getfield 67, 3), (81, .iload_n 3, 1), (82, .iconst 1, 1), (83, .isub, 1), (84, .lconst 1, 1), (85, .aload_n 0, 1), (86, .getfield 67, 3), (89, .iload_n 3, 1), (90, .iconst 1, 1), (91, .isub, 1), (92, .laload, 1), (93, .lsub, 1), (94, .lastore, 1), (95, .goto 33, 3), (98, .iinc 3 (-1), 3), (101, .aload_n 0, 1), (102, .getfield 67, 3), (105, .iload_n 3, 1), (106, .iconst 1, 1), (107, .isub, 1), (108, .iload 5, 2), (110, .aload_n 0, 1), (111, .getfield 67, 3), (114, .iload_n 3, 1), (115, .iconst 1, 1), (116, .isub, 1), (117, .laload, 1), (118, .aload_n 0, 1), (119, .getfield 67, 3), (122, .iload_n 3, 1), (123, .laload, 1), (124, .invokestatic 384, 3), (127, .lastore, 1), (128, .iinc 4 1, 3), (131, .goto (-121), 3), (134, .aload_n 0, 1), (135, .getfield 67, 3), (138, .iconst 0, 1), (139, .laload, 1), (140, .lconst 1, 1), (141, .lcmp, 1), (142, .ifCond .ne 7, 3), (145, .iconst 1, 1), (146, .goto 4, 3), (149, .iconst 0, 1), (150, .ireturn, 1)]
theorem dX12_isSo : ∀ q ∈ tX12_isSo, decode mX12_isSo.2.1 q.1 = .ok q.2 := by decide +kernel
def tX12_paidOf : IT := [(0, .iconst 0, 1), (1, .istore_n 2, 1), (2, .iconst 0, 1), (3, .istore_n 3, 1), (4, .iload_n 3, 1), (5, .aload_n 0, 1), (6, .getfield 306, 3), (9, .if_icmp .ge 31, 3), (12, .iload_n 2, 1), (13, .aload_n 0, 1), (14, .iload_n 3, 1), (15, .iload_n 1, 1), (16, .invokevirtual 388, 3), (19, .ifCond .eq 12, 3), (22, .aload_n 0, 1), (23, .getfield 13, 3), (26, .iload_n 3, 1), (27, .iaload, 1), (28, .goto 4, 3), (31, .iconst 0, 1), (32, .iadd, 1), (33, .istore_n 2, 1), (34, .iinc 3 1, 3), (37, .goto (-33), 3), (40, .iload_n 2, 1), (41, .ireturn, 1)]
theorem dX12_paidOf : ∀ q ∈ tX12_paidOf, decode mX12_paidOf.2.1 q.1 = .ok q.2 := by decide +kernel
def tX12_totalOf : IT := [(0, .aload_n 0, 1), (1, .iload_n 1, 1), (2, .invokevirtual 368, 3), (5, .aload_n 0, 1), (6, .iload_n 1, 1), (7, .invokevirtual 392, 3), (10, .iadd, 1), (11, .ireturn, 1)]
theorem dX12_totalOf : ∀ q ∈ tX12_totalOf, decode mX12_totalOf.2.1 q.1 = .ok q.2 := by decide +kernel
def tX12_isAhead : IT := [(0, .aload_n 0, 1), (1, .iload_n 1, 1), (2, .invokevirtual 395, 3), (5, .istore_n 3, 1), (6, .aload_n 0, 1), (7, .iload_n 2, 1), (8, .invokevirtual 395, 3), (11, .istore 4, 2), (13, .iload_n 3, 1), (14, .iload 4, 2), (16, .if_icmp .eq 15, 3), (19, .iload_n 3, 1), (20, .iload 4, 2), (22, .if_icmp .le 7, 3), (25, .iconst 1, 1), (26, .goto 4, 3), (29, .iconst 0, 1), (30, .ireturn, 1), (31, .aload_n 0, 1), (32, .getfield 309, 3), (35, .iconst 1, 1), (36, .if_icmp .ne 35, 3), (39, .aload_n 0, 1), (40, .iload_n 1, 1), (41, .invokevirtual 374, 3), (44, .aload_n 0, 1), (45, .iload_n 2, 1), (46, .invokevirtual 374, 3), (49, .if_icmp .eq 22, 3), (52, .aload_n 0, 1), (53, .iload_n 1, 1), (54, .invokevirtual 374, 3), (57, .aload_n 0, 1), (58, .iload_n 2, 1), (59, .invokevirtual 374, 3), (62, .if_icmp .le 7, 3), (65, .iconst 1, 1), (66, .goto 4, 3), (69, .iconst 0, 1), (70, .ireturn, 1), (71, .aload_n 0, 1), (72, .getfield 309, 3), (75, .iconst 2, 1), (76, .if_icmp .ne 35, 3), (79, .aload_n 0, 1), (80, .iload_n 1, 1), (81, .invokevirtual 398, 3), (84, .aload_n 0, 1), (85, .iload_n 2, 1), (86, .invokevirtual 398, 3), (89, .if_icmp .eq 22, 3), (92, .aload_n 0, 1), (93, .iload_n 1, 1), (94, .invokevirtual 398, 3), (97, .aload_n 0, 1), (98, .iload_n 2, 1), (99, .invokevirtual 398, 3), (102, .if_icmp .le 7, 3), (105, .iconst 1, 1), (106, .goto 4, 3), (109, .iconst 0, 1), (110, .ireturn, 1), (111, .iload_n 1, 1), (112, .iload_n 2, 1), (113, .if_icmp .ge 7, 3), (116, .iconst 1, 1), (117, .goto 4, 3), (120, .iconst 0, 1), (121, .ireturn, 1)]
theorem dX12_isAhead : ∀ q ∈ tX12_isAhead, decode mX12_isAhead.2.1 q.1 = .ok q.2 := by decide +kernel
def tX12_rankOf : IT := [(0, .iconst 0, 1), (1, .istore_n 2, 1), (2, .iconst 0, 1), (3, .istore_n 3, 1), (4, .iload_n 3, 1), (5, .aload_n 0, 1), (6, .getfield 303, 3), (9, .if_icmp .ge 31, 3), (12, .iload_n 2, 1), (13, .iload_n 3, 1), (14, .iload_n 1, 1), (15, .if_icmp .eq 16, 3), (18, .aload_n 0, 1), (19, .iload_n 3, 1), (20, .iload_n 1, 1), (21, .invokevirtual 401, 3), (24, .ifCond .eq 7, 3), (27, .iconst 1, 1), (28, .goto 4, 3), (31, .iconst 0, 1), (32, .iadd, 1), (33, .istore_n 2, 1), (34, .iinc 3 1, 3), (37, .goto (-33), 3), (40, .iload_n 2, 1), (41, .ireturn, 1)]
theorem dX12_rankOf : ∀ q ∈ tX12_rankOf, decode mX12_rankOf.2.1 q.1 = .ok q.2 := by decide +kernel
def tX12_placed : IT := [(0, .iconst 0, 1), (1, .istore_n 2, 1), (2, .iload_n 2, 1), (3, .aload_n 0, 1), (4, .getfield 303, 3), (7, .if_icmp .ge 20, 3), (10, .aload_n 0, 1), (11, .iload_n 2, 1), (12, .invokevirtual 404, 3), (15, .iload_n 1, 1), (16, .if_icmp .ne 5, 3), (19, .iload_n 2, 1), (20, .ireturn, 1), (21, .iinc 2 1, 3), (24, .goto (-22), 3), (27, .iconst (-1), 1), (28, .ireturn, 1)]
theorem dX12_placed : ∀ q ∈ tX12_placed, decode mX12_placed.2.1 q.1 = .ok q.2 := by decide +kernel
def tX12_mark : IT := [(0, .aload_n 0, 1), (1, .iload_n 1, 1), (2, .iload_n 2, 1), (3, .invokevirtual 407, 3), (6, .ifCond .eq 17, 3), (9, .aload_n 0, 1), (10, .getfield 22, 3), (13, .bipush 10, 2), (15, .iload_n 1, 1), (16, .imul, 1), (17, .iload_n 2, 1), (18, .iadd, 1), (19, .iaload, 1), (20, .goto 5, 3), (23, .bipush (-2), 2), (25, .ireturn, 1)]
theorem dX12_mark : ∀ q ∈ tX12_mark, decode mX12_mark.2.1 q.1 = .ok q.2 := by decide +kernel
def tX12_worth : IT := [(0, .aload_n 0, 1), (1, .iload_n 1, 1), (2, .iload_n 2, 1), (3, .invokevirtual 407, 3), (6, .ifCond .eq 22, 3), (9, .aload_n 0, 1), (10, .iload_n 2, 1), (11, .aload_n 0, 1), (12, .getfield 22, 3), (15, .bipush 10, 2), (17, .iload_n 1, 1), (18, .imul, 1), (19, .iload_n 2, 1), (20, .iadd, 1), (21, .iaload, 1), (22, .invokevirtual 350, 3), (25, .goto 5, 3), (28, .bipush (-2), 2), (30, .ireturn, 1)]
theorem dX12_worth : ∀ q ∈ tX12_worth, decode mX12_worth.2.1 q.1 = .ok q.2 := by decide +kernel
def tX12_of : IT := [(0, .aload_n 0, 1), (1, .iload_n 1, 1), (2, .invokevirtual 317, 3), (5, .ifCond .ne 6, 3), (8, .bipush (-2), 2), (10, .ireturn, 1), (11, .aload_n 0, 1), (12, .aload_n 0, 1), (13, .getfield 22, 3), (16, .invokevirtual 410, 3), (19, .iload_n 2, 1), (20, .tableswitch 86 0 6 #[44, 50, 56, 62, 68, 74, 80], 44), (64, .aload_n 0, 1), (65, .iload_n 1, 1), (66, .invokevirtual 395, 3), (69, .ireturn, 1), (70, .aload_n 0, 1), (71, .iload_n 1, 1), (72, .invokevirtual 368, 3), (75, .ireturn, 1), (76, .aload_n 0, 1), (77, .iload_n 1, 1), (78, .invokevirtual 392, 3), (81, .ireturn, 1), (82, .aload_n 0, 1), (83, .iload_n 1, 1), (84, .invokevirtual 371, 3), (87, .ireturn, 1), (88, .aload_n 0, 1), (89, .iload_n 1, 1), (90, .invokevirtual 374, 3), (93, .ireturn, 1), (94, .aload_n 0, 1), (95, .iload_n 1, 1), (96, .invokevirtual 377, 3), (99, .ireturn, 1), (100, .aload_n 0, 1), (101, .iload_n 1, 1), (102, .invokevirtual 398, 3), (105, .ireturn, 1), (106, .bipush (-2), 2), (108, .ireturn, 1)]
theorem dX12_of : ∀ q ∈ tX12_of, decode mX12_of.2.1 q.1 = .ok q.2 := by decide +kernel
def tX12_holds : IT := [(0, .iload_n 1, 1), (1, .i2l, 1), (2, .lconst 0, 1), (3, .aload_n 0, 1), (4, .getfield 306, 3), (7, .iconst 1, 1), (8, .isub, 1), (9, .i2l, 1), (10, .invokestatic 99, 3), (13, .ifCond .eq 11, 3), (16, .aload_n 0, 1), (17, .iload_n 2, 1), (18, .invokevirtual 317, 3), (21, .ifCond .ne 6, 3), (24, .bipush (-2), 2), (26, .ireturn, 1), (27, .aload_n 0, 1), (28, .aload_n 0, 1), (29, .getfield 22, 3), (32, .invokevirtual 410, 3), (35, .aload_n 0, 1), (36, .iload_n 1, 1), (37, .iload_n 2, 1), (38, .invokevirtual 388, 3), (41, .ifCond .eq 7, 3), (44, .iconst 1, 1), (45, .goto 4, 3), (48, .iconst 0, 1), (49, .ireturn, 1)]
theorem dX12_holds : ∀ q ∈ tX12_holds, decode mX12_holds.2.1 q.1 = .ok q.2 := by decide +kernel
def tX12_bonus : IT := [(0, .iload_n 1, 1), (1, .i2l, 1), (2, .lconst 0, 1), (3, .aload_n 0, 1), (4, .getfield 306, 3), (7, .iconst 1, 1), (8, .isub, 1), (9, .i2l, 1), (10, .invokestatic 99, 3), (13, .ifCond .eq 12, 3), (16, .aload_n 0, 1), (17, .getfield 13, 3), (20, .iload_n 1, 1), (21, .iaload, 1), (22, .goto 5, 3), (25, .bipush (-2), 2), (27, .ireturn, 1)]
theorem dX12_bonus : ∀ q ∈ tX12_bonus, decode mX12_bonus.2.1 q.1 = .ok q.2 := by decide +kernel
def tX12_place : IT := [(0, .aload_n 0, 1), (1, .getfield 297, 3), (4, .ifCond .eq 7, 3), (7, .iload_n 1, 1), (8, .ifCond .ge 6, 3), (11, .bipush (-2), 2), (13, .ireturn, 1), (14, .aload_n 0, 1), (15, .aload_n 0, 1), (16, .getfield 22, 3), (19, .invokevirtual 410, 3), (22, .aload_n 0, 1), (23, .iload_n 1, 1), (24, .invokevirtual 414, 3), (27, .ireturn, 1)]
theorem dX12_place : ∀ q ∈ tX12_place, decode mX12_place.2.1 q.1 = .ok q.2 := by decide +kernel
def tX12_rank : IT := [(0, .aload_n 0, 1), (1, .iload_n 1, 1), (2, .invokevirtual 317, 3), (5, .ifCond .ne 6, 3), (8, .bipush (-2), 2), (10, .ireturn, 1), (11, .aload_n 0, 1), (12, .aload_n 0, 1), (13, .getfield 22, 3), (16, .invokevirtual 410, 3), (19, .aload_n 0, 1), (20, .iload_n 1, 1), (21, .invokevirtual 404, 3), (24, .ireturn, 1)]
theorem dX12_rank : ∀ q ∈ tX12_rank, decode mX12_rank.2.1 q.1 = .ok q.2 := by decide +kernel
def tX12_isBetter : IT := [(0, .aload_n 0, 1), (1, .iload_n 1, 1), (2, .iconst 0, 1), (3, .invokevirtual 325, 3), (6, .iconst 1, 1), (7, .if_icmp .ne 16, 3), (10, .iload_n 2, 1), (11, .iload_n 3, 1), (12, .if_icmp .le 7, 3), (15, .iconst 1, 1), (16, .goto 17, 3), (19, .iconst 0, 1), (20, .goto 13, 3), (23, .iload_n 2, 1), (24, .iload_n 3, 1), (25, .if_icmp .ge 7, 3), (28, .iconst 1, 1), (29, .goto 4, 3), (32, .iconst 0, 1), (33, .ireturn, 1)]
theorem dX12_isBetter : ∀ q ∈ tX12_isBetter, decode mX12_isBetter.2.1 q.1 = .ok q.2 := by decide +kernel
def tX12_leader : IT := [(0, .iconst (-1), 1), (1, .istore_n 2, 1), (2, .iconst 0, 1), (3, .istore_n 3, 1), (4, .iload_n 3, 1), (5, .aload_n 0, 1), (6, .getfield 303, 3), (9, .if_icmp .ge 56, 3), (12, .aload_n 0, 1), (13, .getfield 22, 3), (16, .bipush 10, 2), (18, .iload_n 3, 1), (19, .imul, 1), (20, .iload_n 1, 1), (21, .iadd, 1), (22, .iaload, 1), (23, .istore 4, 2), (25, .iload 4, 2), (27, .iconst (-1), 1), (28, .if_icmp .eq 31, 3), (31, .iload_n 2, 1), (32, .iconst (-1), 1), (33, .if_icmp .eq 24, 3), (36, .aload_n 0, 1), (37, .iload_n 1, 1), (38, .iload 4, 2), (40, .aload_n 0, 1), (41, .getfield 22, 3), (44, .bipush 10, 2), (46, .iload_n 2, 1), (47, .imul, 1), (48, .iload_n 1, 1), (49, .iadd, 1), (50, .iaload, 1), (51, .invokevirtual 417, 3), (54, .ifCond .eq 5, 3), (57, .iload_n 3, 1), (58, .istore_n 2, 1), (59, .iinc 3 1, 3), (62, .goto (-58), 3), (65, .iload_n 2, 1), (66, .ireturn, 1)]
theorem dX12_leader : ∀ q ∈ tX12_leader, decode mX12_leader.2.1 q.1 = .ok q.2 := by decide +kernel
def tX12_leads : IT := [(0, .aload_n 0, 1), (1, .iload_n 1, 1), (2, .invokevirtual 320, 3), (5, .ifCond .eq 11, 3), (8, .aload_n 0, 1), (9, .iload_n 1, 1), (10, .invokevirtual 421, 3), (13, .goto 5, 3), (16, .bipush (-2), 2), (18, .ireturn, 1)]
theorem dX12_leads : ∀ q ∈ tX12_leads, decode mX12_leads.2.1 q.1 = .ok q.2 := by decide +kernel
def tX12_dream : IT := [(0, .aload_n 0, 1), (1, .getfield 297, 3), (4, .ifCond .ne 6, 3), (7, .bipush (-2), 2), (9, .ireturn, 1), (10, .iconst 0, 1), (11, .istore_n 1, 1), (12, .iconst 0, 1), (13, .istore_n 2, 1), (14, .iload_n 2, 1), (15, .aload_n 0, 1), (16, .getfield 300, 3), (19, .if_icmp .ge 43, 3), (22, .aload_n 0, 1), (23, .iload_n 2, 1), (24, .invokevirtual 421, 3), (27, .istore_n 3, 1), (28, .iload_n 1, 1), (29, .iload_n 3, 1), (30, .iconst (-1), 1), (31, .if_icmp .ne 7, 3), (34, .iconst 0, 1), (35, .goto 19, 3), (38, .aload_n 0, 1), (39, .iload_n 2, 1), (40, .aload_n 0, 1), (41, .getfield 22, 3), (44, .bipush 10, 2), (46, .iload_n 3, 1), (47, .imul, 1), (48, .iload_n 2, 1), (49, .iadd, 1), (50, .iaload, 1), (51, .invokevirtual 350, 3), (54, .iadd, 1), (55, .istore_n 1, 1), (56, .iinc 2 1, 3), (59, .goto (-45), 3), (62, .iload_n 1, 1), (63, .ireturn, 1)]
theorem dX12_dream : ∀ q ∈ tX12_dream, decode mX12_dream.2.1 q.1 = .ok q.2 := by decide +kernel
def tX12_puts0 : IT := [(0, .aload_n 0, 1), (1, .getfield 60, 3), (4, .bipush 10, 2), (6, .iload_n 1, 1), (7, .imul, 1), (8, .iload_n 2, 1), (9, .iadd, 1), (10, .iload_n 3, 1), (11, .iastore, 1), (12, .aload_n 0, 1), (13, .getfield 63, 3), (16, .bipush 10, 2), (18, .iload_n 1, 1), (19, .imul, 1), (20, .iload_n 2, 1), (21, .iadd, 1), (22, .iconst 1, 1), (23, .bastore, 1), (24, .return_, 1)]
theorem dX12_puts0 : ∀ q ∈ tX12_puts0, decode mX12_puts0.2.1 q.1 = .ok q.2 := by decide +kernel
def tX12_need : IT := [(0, .aload_n 0, 1), (1, .iload_n 1, 1), (2, .invokevirtual 317, 3), (5, .ifCond .eq 15, 3), (8, .iload_n 2, 1), (9, .i2l, 1), (10, .lconst 0, 1), (11, .ldc2_w 175, 3), (14, .invokestatic 99, 3), (17, .ifCond .ne 6, 3), (20, .bipush (-2), 2), (22, .ireturn, 1), (23, .sipush 2000, 3), (26, .istore_n 3, 1), (27, .iconst 0, 1), (28, .istore 4, 2), (30, .iload 4, 2), (32, .aload_n 0, 1), (33, .getfield 300, 3), (36, .if_icmp .ge 36, 3), (39, .aload_n 0, 1), (40, .getfield 22, 3), (43, .bipush 10, 2), (45, .iload_n 1, 1), (46, .imul, 1), (47, .iload 4, 2), (49, .iadd, 1), (50, .iaload, 1), (51, .iconst (-1), 1), (52, .if_icmp .ne 14, 3), (55, .iload_n 3, 1), (56, .aload_n 0, 1), (57, .iload 4, 2), (59, .invokevirtual 356, 3), (62, .invokestatic 138, 3), (65, .istore_n 3, 1), (66, .iinc 4 1, 3), (69, .goto (-39), 3), (72, .aload_n 0, 1), (73, .aload_n 0, 1), (74, .getfield 22, 3), (77, .invokevirtual 410, 3), (80, .iconst 0, 1), (81, .istore 4, 2), (83, .iload 4, 2), (85, .iload_n 3, 1), (86, .if_icmp .gt 64, 3), (89, .iconst 0, 1), (90, .istore 5, 2), (92, .iload 5, 2), (94, .aload_n 0, 1), (95, .getfield 300, 3), (98, .if_icmp .ge 34, 3), (101, .aload_n 0, 1), (102, .getfield 22, 3), (105, .bipush 10, 2), (107, .iload_n 1, 1), (108, .imul, 1), (109, .iload 5, 2), (111, .iadd, 1), (112, .iaload, 1), (113, .iconst (-1), 1), (114, .if_icmp .ne 12, 3), (117, .aload_n 0, 1), (118, .iload_n 1, 1), (119, .iload 5, 2), (121, .iload 4, 2), (123, .invokevirtual 424, 3), (126, .iinc 5 1, 3), (129, .goto (-37), 3), (132, .aload_n 0, 1), (133, .iload_n 1, 1), (134, .invokevirtual 395, 3), (137, .iload_n 2, 1), (138, .if_icmp .lt 6, 3), (141, .iload 4, 2), (143, .ireturn, 1), (144, .iinc 4 1, 3), (147, .goto (-64), 3), (150, .iconst (-1), 1), (151, .ireturn, 1)]
theorem dX12_need : ∀ q ∈ tX12_need, decode mX12_need.2.1 q.1 = .ok q.2 := by decide +kernel
def tX12_needIn : IT := [(0, .aload_n 0, 1), (1, .iload_n 1, 1), (2, .iload_n 2, 1), (3, .invokevirtual 407, 3), (6, .ifCond .eq 15, 3), (9, .iload_n 3, 1), (10, .i2l, 1), (11, .lconst 0, 1), (12, .ldc2_w 175, 3), (15, .invokestatic 99, 3), (18, .ifCond .ne 6, 3), (21, .bipush (-2), 2), (23, .ireturn, 1), (24, .aload_n 0, 1), (25, .aload_n 0, 1), (26, .getfield 22, 3), (29, .invokevirtual 410, 3), (32, .aload_n 0, 1), (33, .iload_n 2, 1), (34, .invokevirtual 356, 3), (37, .istore 4, 2), (39, .iconst 0, 1), (40, .istore 5, 2), (42, .iload 5, 2), (44, .iload 4, 2), (46, .if_icmp .gt 29, 3), (49, .aload_n 0, 1), (50, .iload_n 1, 1), (51, .iload_n 2, 1), (52, .iload 5, 2), (54, .invokevirtual 424, 3), (57, .aload_n 0, 1), (58, .iload_n 1, 1), (59, .invokevirtual 395, 3), (62, .iload_n 3, 1), (63, .if_icmp .lt 6, 3), (66, .iload 5, 2), (68, .ireturn, 1), (69, .iinc 5 1, 3), (72, .goto (-30), 3), (75, .iconst (-1), 1), (76, .ireturn, 1)]
theorem dX12_needIn : ∀ q ∈ tX12_needIn, decode mX12_needIn.2.1 q.1 = .ok q.2 := by decide +kernel
def tX12_pass : IT := [(0, .aload_n 0, 1), (1, .iload_n 1, 1), (2, .iload_n 2, 1), (3, .invokevirtual 407, 3), (6, .ifCond .eq 16, 3), (9, .aload_n 0, 1), (10, .iload_n 3, 1), (11, .invokevirtual 317, 3), (14, .ifCond .eq 8, 3), (17, .iload_n 1, 1), (18, .iload_n 3, 1), (19, .if_icmp .ne 6, 3), (22, .bipush (-2), 2), (24, .ireturn, 1), (25, .aload_n 0, 1), (26, .aload_n 0, 1), (27, .getfield 22, 3), (30, .invokevirtual 410, 3), (33, .aload_n 0, 1), (34, .iload_n 2, 1), (35, .invokevirtual 356, 3), (38, .istore 4, 2), (40, .iconst 0, 1), (41, .istore 5, 2), (43, .iload 5, 2), (45, .iload 4, 2), (47, .if_icmp .gt 29, 3), (50, .aload_n 0, 1), (51, .iload_n 1, 1), (52, .iload_n 2, 1), (53, .iload 5, 2), (55, .invokevirtual 424, 3), (58, .aload_n 0, 1), (59, .iload_n 1, 1), (60, .iload_n 3, 1), (61, .invokevirtual 401, 3), (64, .ifCond .eq 6, 3), (67, .iload 5, 2), (69, .ireturn, 1), (70, .iinc 5 1, 3), (73, .goto (-30), 3), (76, .iconst (-1), 1), (77, .ireturn, 1)]
theorem dX12_pass : ∀ q ∈ tX12_pass, decode mX12_pass.2.1 q.1 = .ok q.2 := by decide +kernel
def tX12_trainedOf : IT := [(0, .bipush 10, 2), (2, .iload_n 1, 1), (3, .imul, 1), (4, .iload_n 2, 1), (5, .iadd, 1), (6, .istore 4, 2), (8, .aload_n 0, 1), (9, .getfield 22, 3), (12, .iload 4, 2), (14, .iaload, 1), (15, .istore 5, 2), (17, .iload 5, 2), (19, .iconst (-1), 1), (20, .if_icmp .eq 14, 3), (23, .aload_n 0, 1), (24, .getfield 25, 3), (27, .iload 4, 2), (29, .iaload, 1), (30, .iconst (-1), 1), (31, .if_icmp .ne 6, 3), (34, .iload 5, 2), (36, .ireturn, 1), (37, .aload_n 0, 1), (38, .getfield 25, 3), (41, .iload 4, 2), (43, .iaload, 1), (44, .i2l, 1), (45, .iload_n 3, 1), (46, .i2l, 1), (47, .lmul, 1), (48, .iload_n 3, 1), (49, .aload_n 0, 1), (50, .getfield 28, 3), (53, .iload 4, 2), (55, .iaload, 1), (56, .iadd, 1), (57, .i2l, 1), (58, .ldiv, 1), (59, .l2i, 1), (60, .istore 6, 2), (62, .aload_n 0, 1), (63, .iload_n 2, 1), (64, .iconst 0, 1), (65, .invokevirtual 325, 3), (68, .iconst 1, 1), (69, .if_icmp .ne 16, 3), (72, .ldc 177, 2), (74, .iload 5, 2), (76, .iload 6, 2), (78, .iadd, 1), (79, .invokestatic 138, 3), (82, .goto 12, 3), (85, .iconst 0, 1), (86, .iload 5, 2), (88, .iload 6, 2), (90, .isub, 1), (91, .invokestatic 365, 3), (94, .ireturn, 1)]
theorem dX12_trainedOf : ∀ q ∈ tX12_trainedOf, decode mX12_trainedOf.2.1 q.1 = .ok q.2 := by decide +kernel
def tX12_trained : IT := [(0, .aload_n 0, 1), (1, .iload_n 1, 1), (2, .iload_n 2, 1), (3, .invokevirtual 407, 3), (6, .ifCond .eq 25, 3), (9, .iload_n 3, 1), (10, .i2l, 1), (11, .lconst 0, 1), (12, .ldc2_w 428, 3), (15, .invokestatic 99, 3), (18, .ifCond .eq 13, 3), (21, .aload_n 0, 1), (22, .iload_n 1, 1), (23, .iload_n 2, 1), (24, .iload_n 3, 1), (25, .invokevirtual 430, 3), (28, .goto 5, 3), (31, .bipush (-2), 2), (33, .ireturn, 1)]
theorem dX12_trained : ∀ q ∈ tX12_trained, decode mX12_trained.2.1 q.1 = .ok q.2 := by decide +kernel
def tX12_gains : IT := [(0, .aload_n 0, 1), (1, .iload_n 1, 1), (2, .iload_n 2, 1), (3, .invokevirtual 407, 3), (6, .ifCond .eq 13, 3), (9, .iload_n 3, 1), (10, .i2l, 1), (11, .lconst 0, 1), (12, .lconst 1, 1), (13, .invokestatic 99, 3), (16, .ifCond .ne 6, 3), (19, .bipush (-2), 2), (21, .ireturn, 1), (22, .iload_n 3, 1), (23, .ifCond .ne 17, 3), (26, .aload_n 0, 1), (27, .getfield 25, 3), (30, .bipush 10, 2), (32, .iload_n 1, 1), (33, .imul, 1), (34, .iload_n 2, 1), (35, .iadd, 1), (36, .iaload, 1), (37, .goto 14, 3), (40, .aload_n 0, 1), (41, .getfield 28, 3), (44, .bipush 10, 2), (46, .iload_n 1, 1), (47, .imul, 1), (48, .iload_n 2, 1), (49, .iadd, 1), (50, .iaload, 1), (51, .ireturn, 1)]
theorem dX12_gains : ∀ q ∈ tX12_gains, decode mX12_gains.2.1 q.1 = .ok q.2 := by decide +kernel
def tX12_trainedWorth : IT := [(0, .aload_n 0, 1), (1, .iload_n 2, 1), (2, .aload_n 0, 1), (3, .iload_n 1, 1), (4, .iload_n 2, 1), (5, .iload_n 3, 1), (6, .invokevirtual 430, 3), (9, .invokevirtual 350, 3), (12, .ireturn, 1)]
theorem dX12_trainedWorth : ∀ q ∈ tX12_trainedWorth, decode mX12_trainedWorth.2.1 q.1 = .ok q.2 := by decide +kernel
def tX12_pays : IT := [(0, .aload_n 0, 1), (1, .iload_n 1, 1), (2, .invokevirtual 317, 3), (5, .ifCond .eq 15, 3), (8, .iload_n 2, 1), (9, .i2l, 1), (10, .lconst 1, 1), (11, .ldc2_w 428, 3), (14, .invokestatic 99, 3), (17, .ifCond .ne 6, 3), (20, .bipush (-2), 2), (22, .ireturn, 1), (23, .iconst (-1), 1), (24, .istore_n 3, 1), (25, .iconst 0, 1), (26, .istore 4, 2), (28, .iconst 0, 1), (29, .istore 5, 2), (31, .iload 5, 2), (33, .aload_n 0, 1), (34, .getfield 300, 3), (37, .if_icmp .ge 45, 3), (40, .aload_n 0, 1), (41, .iload_n 1, 1), (42, .iload 5, 2), (44, .iload_n 2, 1), (45, .invokevirtual 434, 3), (48, .aload_n 0, 1), (49, .iload_n 1, 1), (50, .iload 5, 2), (52, .iconst 0, 1), (53, .invokevirtual 434, 3), (56, .isub, 1), (57, .istore 6, 2), (59, .iload 6, 2), (61, .iload 4, 2), (63, .if_icmp .gt 6, 3), (66, .goto 10, 3), (69, .iload 5, 2), (71, .istore_n 3, 1), (72, .iload 6, 2), (74, .istore 4, 2), (76, .iinc 5 1, 3), (79, .goto (-48), 3), (82, .iload_n 3, 1), (83, .ireturn, 1)]
theorem dX12_pays : ∀ q ∈ tX12_pays, decode mX12_pays.2.1 q.1 = .ok q.2 := by decide +kernel
def tX12_byAt : IT := [(0, .iload_n 0, 1), (1, .bipush 61, 2), (3, .imul, 1), (4, .iload_n 1, 1), (5, .iadd, 1), (6, .ireturn, 1)]
theorem dX12_byAt : ∀ q ∈ tX12_byAt, decode mX12_byAt.2.1 q.1 = .ok q.2 := by decide +kernel
def tX12_spreadBy : IT := [(0, .aload_n 0, 1), (1, .iload_n 1, 1), (2, .iload_n 2, 1), (3, .iload_n 3, 1), (4, .invokevirtual 434, 3), (7, .aload_n 0, 1), (8, .getfield 71, 3), (11, .iload_n 2, 1), (12, .iconst 1, 1), (13, .iadd, 1), (14, .iload 4, 2), (16, .iload_n 3, 1), (17, .isub, 1), (18, .invokestatic 437, 3), (21, .iaload, 1), (22, .iadd, 1), (23, .ireturn, 1)]
theorem dX12_spreadBy : ∀ q ∈ tX12_spreadBy, decode mX12_spreadBy.2.1 q.1 = .ok q.2 := by decide +kernel
def tX12_laysSpread : IT := [(0, .iconst 0, 1), (1, .istore_n 2, 1), (2, .iload_n 2, 1), (3, .bipush 60, 2), (5, .if_icmp .gt 40, 3), (8, .aload_n 0, 1), (9, .getfield 71, 3), (12, .aload_n 0, 1), (13, .getfield 300, 3), (16, .iload_n 2, 1), (17, .invokestatic 437, 3), (20, .iload_n 2, 1), (21, .ifCond .eq 10, 3), (24, .aload_n 0, 1), (25, .getfield 300, 3), (28, .ifCond .ne 7, 3), (31, .iconst 0, 1), (32, .goto 6, 3), (35, .ldc_w 440, 3), (38, .iastore, 1), (39, .iinc 2 1, 3), (42, .goto (-40), 3), (45, .aload_n 0, 1), (46, .getfield 300, 3), (49, .iconst 1, 1), (50, .isub, 1), (51, .istore_n 2, 1), (52, .iload_n 2, 1), (53, .ifCond .lt 71, 3), (56, .iconst 0, 1), (57, .istore_n 3, 1), (58, .iload_n 3, 1), (59, .bipush 60, 2), (61, .if_icmp .gt 57, 3), (64, .ldc_w 441, 3), (67, .istore 4, 2), (69, .iconst 0, 1), (70, .istore 5, 2), (72, .iload 5, 2), (74, .iload_n 3, 1), (75, .if_icmp .gt 25, 3), (78, .iload 4, 2), (80, .aload_n 0, 1), (81, .iload_n 1, 1), (82, .iload_n 2, 1), (83, .iload 5, 2), (85, .iload_n 3, 1), (86, .invokevirtual 442, 3), (89, .invokestatic 365, 3), (92, .istore 4, 2), (94, .iinc 5 1, 3), (97, .goto (-25), 3), (100, .aload_n 0, 1), (101, .getfield 71, 3), (104, .iload_n 2, 1), (105, .iload_n 3, 1), (106, .invokestatic 437, 3), (109, .iload 4, 2), (111, .iastore, 1), (112, .iinc 3 1, 3), (115, .goto (-57), 3), (118, .iinc 2 (-1), 3), (121, .goto (-69), 3), (124, .return_, 1)]
theorem dX12_laysSpread : ∀ q ∈ tX12_laysSpread, decode mX12_laysSpread.2.1 q.1 = .ok q.2 := by decide +kernel
def tX12_spread : IT := [(0, .aload_n 0, 1), (1, .iload_n 1, 1), (2, .invokevirtual 317, 3), (5, .ifCond .eq 28, 3), (8, .iload_n 2, 1), (9, .i2l, 1), (10, .lconst 0, 1), (11, .ldc2_w 446, 3), (14, .invokestatic 99, 3), (17, .ifCond .eq 16, 3), (20, .iload_n 3, 1), (21, .iconst (-1), 1), (22, .if_icmp .eq 14, 3), (25, .aload_n 0, 1), (26, .iload_n 3, 1), (27, .invokevirtual 320, 3), (30, .ifCond .ne 6, 3), (33, .bipush (-2), 2), (35, .ireturn, 1), (36, .aload_n 0, 1), (37, .iload_n 1, 1), (38, .invokevirtual 448, 3), (41, .iload_n 3, 1), (42, .iconst (-1), 1), (43, .if_icmp .ne 14, 3), (46, .aload_n 0, 1), (47, .getfield 71, 3), (50, .iconst 0, 1), (51, .iload_n 2, 1), (52, .invokestatic 437, 3), (55, .iaload, 1), (56, .ireturn, 1), (57, .iload_n 2, 1), (58, .istore 4, 2), (60, .iconst 0, 1), (61, .istore 5, 2), (63, .iconst 0, 1), (64, .istore 6, 2), (66, .iload 6, 2), (68, .iload_n 3, 1), (69, .if_icmp .gt 51, 3), (72, .iload 4, 2), (74, .iload 5, 2), (76, .isub, 1), (77, .istore 4, 2), (79, .iconst 0, 1), (80, .istore 5, 2), (82, .aload_n 0, 1), (83, .iload_n 1, 1), (84, .iload 6, 2), (86, .iload 5, 2), (88, .iload 4, 2), (90, .invokevirtual 442, 3), (93, .aload_n 0, 1), (94, .getfield 71, 3), (97, .iload 6, 2), (99, .iload 4, 2), (101, .invokestatic 437, 3), (104, .iaload, 1), (105, .if_icmp .eq 9, 3), (108, .iinc 5 1, 3), (111, .goto (-29), 3), (114, .iinc 6 1, 3), (117, .goto (-51), 3), (120, .iload 5, 2), (122, .ireturn, 1)]
theorem dX12_spread : ∀ q ∈ tX12_spread, decode mX12_spread.2.1 q.1 = .ok q.2 := by decide +kernel
def tX12_hours : IT := [(0, .aload_n 0, 1), (1, .iload_n 1, 1), (2, .invokevirtual 317, 3), (5, .ifCond .eq 15, 3), (8, .iload_n 2, 1), (9, .i2l, 1), (10, .lconst 0, 1), (11, .ldc2_w 175, 3), (14, .invokestatic 99, 3), (17, .ifCond .ne 6, 3), (20, .bipush (-2), 2), (22, .ireturn, 1), (23, .aload_n 0, 1), (24, .iload_n 1, 1), (25, .invokevirtual 448, 3), (28, .iconst 0, 1), (29, .istore_n 3, 1), (30, .iload_n 3, 1), (31, .bipush 60, 2), (33, .if_icmp .gt 25, 3), (36, .aload_n 0, 1), (37, .getfield 71, 3), (40, .iconst 0, 1), (41, .iload_n 3, 1), (42, .invokestatic 437, 3), (45, .iaload, 1), (46, .iload_n 2, 1), (47, .if_icmp .lt 5, 3), (50, .iload_n 3, 1), (51, .ireturn, 1), (52, .iinc 3 1, 3), (55, .goto (-25), 3), (58, .iconst (-1), 1), (59, .ireturn, 1)]
theorem dX12_hours : ∀ q ∈ tX12_hours, decode mX12_hours.2.1 q.1 = .ok q.2 := by decide +kernel
def tX12_betterOf : IT := [(0, .iconst 0, 1), (1, .istore_n 3, 1), (2, .aload_n 0, 1), (3, .getfield 22, 3), (6, .bipush 10, 2), (8, .iload_n 1, 1), (9, .imul, 1), (10, .iload_n 2, 1), (11, .iadd, 1), (12, .iaload, 1), (13, .istore 4, 2), (15, .iconst 0, 1), (16, .istore 5, 2), (18, .iload 5, 2), (20, .aload_n 0, 1), (21, .getfield 303, 3), (24, .if_icmp .ge 62, 3), (27, .aload_n 0, 1), (28, .getfield 22, 3), (31, .bipush 10, 2), (33, .iload 5, 2), (35, .imul, 1), (36, .iload_n 2, 1), (37, .iadd, 1), (38, .iaload, 1), (39, .istore 6, 2), (41, .iload_n 3, 1), (42, .iload 6, 2), (44, .iconst (-1), 1), (45, .if_icmp .eq 32, 3), (48, .aload_n 0, 1), (49, .iload_n 2, 1), (50, .iload 6, 2), (52, .iload 4, 2), (54, .invokevirtual 417, 3), (57, .ifCond .ne 16, 3), (60, .iload 6, 2), (62, .iload 4, 2), (64, .if_icmp .ne 13, 3), (67, .iload 5, 2), (69, .iload_n 1, 1), (70, .if_icmp .ge 7, 3), (73, .iconst 1, 1), (74, .goto 4, 3), (77, .iconst 0, 1), (78, .iadd, 1), (79, .istore_n 3, 1), (80, .iinc 5 1, 3), (83, .goto (-65), 3), (86, .iload_n 3, 1), (87, .ireturn, 1)]
theorem dX12_betterOf : ∀ q ∈ tX12_betterOf, decode mX12_betterOf.2.1 q.1 = .ok q.2 := by decide +kernel
def tX12_kth : IT := [(0, .aload_n 0, 1), (1, .iload_n 1, 1), (2, .invokevirtual 320, 3), (5, .ifCond .eq 7, 3), (8, .iload_n 2, 1), (9, .ifCond .ge 6, 3), (12, .bipush (-2), 2), (14, .ireturn, 1), (15, .iconst 0, 1), (16, .istore_n 3, 1), (17, .iload_n 3, 1), (18, .aload_n 0, 1), (19, .getfield 303, 3), (22, .if_icmp .ge 36, 3), (25, .aload_n 0, 1), (26, .getfield 22, 3), (29, .bipush 10, 2), (31, .iload_n 3, 1), (32, .imul, 1), (33, .iload_n 1, 1), (34, .iadd, 1), (35, .iaload, 1), (36, .iconst (-1), 1), (37, .if_icmp .eq 15, 3), (40, .aload_n 0, 1), (41, .iload_n 3, 1), (42, .iload_n 1, 1), (43, .invokevirtual 451, 3), (46, .iload_n 2, 1), (47, .if_icmp .ne 5, 3), (50, .iload_n 3, 1), (51, .ireturn, 1), (52, .iinc 3 1, 3), (55, .goto (-38), 3), (58, .iconst (-1), 1), (59, .ireturn, 1)]
theorem dX12_kth : ∀ q ∈ tX12_kth, decode mX12_kth.2.1 q.1 = .ok q.2 := by decide +kernel
def tX12_behind : IT := [(0, .aload_n 0, 1), (1, .iload_n 1, 1), (2, .invokevirtual 317, 3), (5, .ifCond .ne 6, 3), (8, .bipush (-2), 2), (10, .ireturn, 1), (11, .aload_n 0, 1), (12, .aload_n 0, 1), (13, .getfield 22, 3), (16, .invokevirtual 410, 3), (19, .iconst (-1), 1), (20, .istore_n 2, 1), (21, .iconst 0, 1), (22, .istore_n 3, 1), (23, .iconst 0, 1), (24, .istore 4, 2), (26, .iload 4, 2), (28, .aload_n 0, 1), (29, .getfield 300, 3), (32, .if_icmp .ge 82, 3), (35, .iconst 0, 1), (36, .istore 5, 2), (38, .iconst 0, 1), (39, .istore 6, 2), (41, .iload 6, 2), (43, .aload_n 0, 1), (44, .getfield 303, 3), (47, .if_icmp .ge 29, 3), (50, .iload 5, 2), (52, .aload_n 0, 1), (53, .getfield 60, 3), (56, .bipush 10, 2), (58, .iload 6, 2), (60, .imul, 1), (61, .iload 4, 2), (63, .iadd, 1), (64, .iaload, 1), (65, .invokestatic 365, 3), (68, .istore 5, 2), (70, .iinc 6 1, 3), (73, .goto (-32), 3), (76, .iload 5, 2), (78, .aload_n 0, 1), (79, .getfield 60, 3), (82, .bipush 10, 2), (84, .iload_n 1, 1), (85, .imul, 1), (86, .iload 4, 2), (88, .iadd, 1), (89, .iaload, 1), (90, .isub, 1), (91, .istore 6, 2), (93, .iload 6, 2), (95, .iload_n 3, 1), (96, .if_icmp .gt 6, 3), (99, .goto 9, 3), (102, .iload 4, 2), (104, .istore_n 2, 1), (105, .iload 6, 2), (107, .istore_n 3, 1), (108, .iinc 4 1, 3), (111, .goto (-85), 3), (114, .iload_n 2, 1), (115, .ireturn, 1)]
theorem dX12_behind : ∀ q ∈ tX12_behind, decode mX12_behind.2.1 q.1 = .ok q.2 := by decide +kernel
def tX12_hour : IT := [(0, .aload_n 0, 1), (1, .iload_n 1, 1), (2, .iload_n 2, 1), (3, .invokevirtual 407, 3), (6, .ifCond .eq 35, 3), (9, .iload_n 3, 1), (10, .i2l, 1), (11, .lconst 1, 1), (12, .ldc2_w 428, 3), (15, .invokestatic 99, 3), (18, .ifCond .eq 23, 3), (21, .aload_n 0, 1), (22, .iload_n 1, 1), (23, .iload_n 2, 1), (24, .iload_n 3, 1), (25, .invokevirtual 434, 3), (28, .aload_n 0, 1), (29, .iload_n 1, 1), (30, .iload_n 2, 1), (31, .iload_n 3, 1), (32, .iconst 1, 1), (33, .isub, 1), (34, .invokevirtual 434, 3), (37, .isub, 1), (38, .goto 5, 3), (41, .bipush (-2), 2), (43, .ireturn, 1)]
theorem dX12_hour : ∀ q ∈ tX12_hour, decode mX12_hour.2.1 q.1 = .ok q.2 := by decide +kernel
def tX12_squadOf : IT := [(0, .aload_n 0, 1), (1, .getfield 74, 3), (4, .iload_n 1, 1), (5, .iload_n 2, 1), (6, .invokestatic 437, 3), (9, .iaload, 1), (10, .aload_n 0, 1), (11, .getfield 77, 3), (14, .iload_n 1, 1), (15, .iconst 1, 1), (16, .iadd, 1), (17, .iload_n 3, 1), (18, .iload_n 2, 1), (19, .isub, 1), (20, .invokestatic 437, 3), (23, .iaload, 1), (24, .iadd, 1), (25, .ireturn, 1)]
theorem dX12_squadOf : ∀ q ∈ tX12_squadOf, decode mX12_squadOf.2.1 q.1 = .ok q.2 := by decide +kernel
def tX12_laysSquad : IT := [(0, .iconst 0, 1), (1, .istore_n 1, 1), (2, .iload_n 1, 1), (3, .aload_n 0, 1), (4, .getfield 303, 3), (7, .if_icmp .ge 48, 3), (10, .aload_n 0, 1), (11, .iload_n 1, 1), (12, .invokevirtual 448, 3), (15, .iconst 0, 1), (16, .istore_n 2, 1), (17, .iload_n 2, 1), (18, .bipush 60, 2), (20, .if_icmp .gt 29, 3), (23, .aload_n 0, 1), (24, .getfield 74, 3), (27, .iload_n 1, 1), (28, .iload_n 2, 1), (29, .invokestatic 437, 3), (32, .aload_n 0, 1), (33, .getfield 71, 3), (36, .iconst 0, 1), (37, .iload_n 2, 1), (38, .invokestatic 437, 3), (41, .iaload, 1), (42, .iastore, 1), (43, .iinc 2 1, 3), (46, .goto (-29), 3), (49, .iinc 1 1, 3), (52, .goto (-50), 3), (55, .iconst 0, 1), (56, .istore_n 1, 1), (57, .iload_n 1, 1), (58, .bipush 60, 2), (60, .if_icmp .gt 40, 3), (63, .aload_n 0, 1), (64, .getfield 77, 3), (67, .aload_n 0, 1), (68, .getfield 303, 3), (71, .iload_n 1, 1), (72, .invokestatic 437, 3), (75, .iload_n 1, 1), (76, .ifCond .eq 10, 3), (79, .aload_n 0, 1), (80, .getfield 303, 3), (83, .ifCond .ne 7, 3), (86, .iconst 0, 1), (87, .goto 6, 3), (90, .ldc_w 454, 3), (93, .iastore, 1), (94, .iinc 1 1, 3), (97, .goto (-40), 3), (100, .aload_n 0, 1), (101, .getfield 303, 3), (104, .iconst 1, 1), (105, .isub, 1), (106, .istore_n 1, 1), (107, .iload_n 1, 1), (108, .ifCond .lt 66, 3), (111, .iconst 0, 1), (112, .istore_n 2, 1), (113, .iload_n 2, 1), (114, .bipush 60, 2), (116, .if_icmp .gt 52, 3), (119, .ldc_w 455, 3), (122, .istore_n 3, 1), (123, .iconst 0, 1), (124, .istore 4, 2), (126, .iload 4, 2), (128, .iload_n 2, 1), (129, .if_icmp .gt 22, 3), (132, .iload_n 3, 1), (133, .aload_n 0, 1), (134, .iload_n 1, 1), (135, .iload 4, 2), (137, .iload_n 2, 1), (138, .invokevirtual 456, 3), (141, .invokestatic 365, 3), (144, .istore_n 3, 1), (145, .iinc 4 1, 3), (148, .goto (-22), 3), (151, .aload_n 0, 1), (152, .getfield 77, 3), (155, .iload_n 1, 1), (156, .iload_n 2, 1), (157, .invokestatic 437, 3), (160, .iload_n 3, 1), (161, .iastore, 1), (162, .iinc 2 1, 3), (165, .goto (-52), 3), (168, .iinc 1 (-1), 3), (171, .goto (-64), 3), (174, .return_, 1)]
theorem dX12_laysSquad : ∀ q ∈ tX12_laysSquad, decode mX12_laysSquad.2.1 q.1 = .ok q.2 := by decide +kernel
def tX12_squad : IT := [(0, .aload_n 0, 1), (1, .getfield 297, 3), (4, .ifCond .eq 28, 3), (7, .iload_n 1, 1), (8, .i2l, 1), (9, .lconst 0, 1), (10, .ldc2_w 446, 3), (13, .invokestatic 99, 3), (16, .ifCond .eq 16, 3), (19, .iload_n 2, 1), (20, .iconst (-1), 1), (21, .if_icmp .eq 14, 3), (24, .aload_n 0, 1), (25, .iload_n 2, 1), (26, .invokevirtual 317, 3), (29, .ifCond .ne 6, 3), (32, .bipush (-2), 2), (34, .ireturn, 1), (35, .aload_n 0, 1), (36, .invokevirtual 459, 3), (39, .iload_n 2, 1), (40, .iconst (-1), 1), (41, .if_icmp .ne 14, 3), (44, .aload_n 0, 1), (45, .getfield 77, 3), (48, .iconst 0, 1), (49, .iload_n 1, 1), (50, .invokestatic 437, 3), (53, .iaload, 1), (54, .ireturn, 1), (55, .iload_n 1, 1), (56, .istore_n 3, 1), (57, .iconst 0, 1), (58, .istore 4, 2), (60, .iconst 0, 1), (61, .istore 5, 2), (63, .iload 5, 2), (65, .iload_n 2, 1), (66, .if_icmp .gt 46, 3), (69, .iload_n 3, 1), (70, .iload 4, 2), (72, .isub, 1), (73, .istore_n 3, 1), (74, .iconst 0, 1), (75, .istore 4, 2), (77, .aload_n 0, 1), (78, .iload 5, 2), (80, .iload 4, 2), (82, .iload_n 3, 1), (83, .invokevirtual 456, 3), (86, .aload_n 0, 1), (87, .getfield 77, 3), (90, .iload 5, 2), (92, .iload_n 3, 1), (93, .invokestatic 437, 3), (96, .iaload, 1), (97, .if_icmp .eq 9, 3), (100, .iinc 4 1, 3), (103, .goto (-26), 3), (106, .iinc 5 1, 3), (109, .goto (-46), 3), (112, .iload 4, 2), (114, .ireturn, 1)]
theorem dX12_squad : ∀ q ∈ tX12_squad, decode mX12_squad.2.1 q.1 = .ok q.2 := by decide +kernel
def tX12_close : IT := [(0, .aload_n 0, 1), (1, .getfield 297, 3), (4, .ifCond .ne 6, 3), (7, .bipush (-2), 2), (9, .ireturn, 1), (10, .aload_n 0, 1), (11, .aload_n 0, 1), (12, .getfield 22, 3), (15, .invokevirtual 410, 3), (18, .iconst (-1), 1), (19, .istore_n 1, 1), (20, .iconst 0, 1), (21, .istore_n 2, 1), (22, .iconst 0, 1), (23, .istore_n 3, 1), (24, .iload_n 3, 1), (25, .aload_n 0, 1), (26, .getfield 303, 3), (29, .if_icmp .ge 71, 3), (32, .iload_n 3, 1), (33, .iconst 1, 1), (34, .iadd, 1), (35, .istore 4, 2), (37, .iload 4, 2), (39, .aload_n 0, 1), (40, .getfield 303, 3), (43, .if_icmp .ge 51, 3), (46, .aload_n 0, 1), (47, .iload_n 3, 1), (48, .invokevirtual 395, 3), (51, .aload_n 0, 1), (52, .iload 4, 2), (54, .invokevirtual 395, 3), (57, .isub, 1), (58, .invokestatic 362, 3), (61, .istore 5, 2), (63, .iload_n 1, 1), (64, .iconst (-1), 1), (65, .if_icmp .eq 12, 3), (68, .iload 5, 2), (70, .iload_n 2, 1), (71, .if_icmp .lt 6, 3), (74, .goto 14, 3), (77, .bipush 10, 2), (79, .iload_n 3, 1), (80, .imul, 1), (81, .iload 4, 2), (83, .iadd, 1), (84, .istore_n 1, 1), (85, .iload 5, 2), (87, .istore_n 2, 1), (88, .iinc 4 1, 3), (91, .goto (-54), 3), (94, .iinc 3 1, 3), (97, .goto (-73), 3), (100, .iload_n 1, 1), (101, .ireturn, 1)]
theorem dX12_close : ∀ q ∈ tX12_close, decode mX12_close.2.1 q.1 = .ok q.2 := by decide +kernel
def tX12_team : IT := [(0, .aload_n 0, 1), (1, .getfield 297, 3), (4, .ifCond .eq 21, 3), (7, .iload_n 1, 1), (8, .i2l, 1), (9, .lconst 0, 1), (10, .iconst 1, 1), (11, .aload_n 0, 1), (12, .getfield 303, 3), (15, .ishl, 1), (16, .iconst 1, 1), (17, .isub, 1), (18, .i2l, 1), (19, .invokestatic 99, 3), (22, .ifCond .ne 6, 3), (25, .bipush (-2), 2), (27, .ireturn, 1), (28, .aload_n 0, 1), (29, .aload_n 0, 1), (30, .getfield 22, 3), (33, .invokevirtual 410, 3), (36, .iconst 0, 1), (37, .istore_n 2, 1), (38, .iconst 0, 1), (39, .istore_n 3, 1), (40, .iload_n 3, 1), (41, .aload_n 0, 1), (42, .getfield 303, 3), (45, .if_icmp .ge 30, 3), (48, .iload_n 2, 1), (49, .iload_n 1, 1), (50, .iload_n 3, 1), (51, .ishr, 1), (52, .iconst 1, 1), (53, .iand, 1), (54, .iconst 1, 1), (55, .if_icmp .ne 11, 3), (58, .aload_n 0, 1), (59, .iload_n 3, 1), (60, .invokevirtual 395, 3), (63, .goto 4, 3), (66, .iconst 0, 1), (67, .iadd, 1), (68, .istore_n 2, 1), (69, .iinc 3 1, 3), (72, .goto (-32), 3), (75, .iload_n 2, 1), (76, .ireturn, 1)]
theorem dX12_team : ∀ q ∈ tX12_team, decode mX12_team.2.1 q.1 = .ok q.2 := by decide +kernel
def tX12_kinds : IT := [(0, .aload_n 0, 1), (1, .iload_n 1, 1), (2, .invokevirtual 320, 3), (5, .ifCond .eq 32, 3), (8, .iload_n 2, 1), (9, .invokestatic 347, 3), (12, .ifCond .eq 25, 3), (15, .iload_n 3, 1), (16, .invokestatic 347, 3), (19, .ifCond .eq 18, 3), (22, .iload_n 3, 1), (23, .i2l, 1), (24, .iload_n 2, 1), (25, .i2l, 1), (26, .lsub, 1), (27, .lconst 0, 1), (28, .ldc2_w 342, 3), (31, .invokestatic 99, 3), (34, .ifCond .ne 6, 3), (37, .bipush (-2), 2), (39, .ireturn, 1), (40, .iconst 1, 1), (41, .istore 4, 2), (43, .iload_n 2, 1), (44, .iconst 1, 1), (45, .iadd, 1), (46, .istore 5, 2), (48, .iload 5, 2), (50, .iload_n 3, 1), (51, .if_icmp .gt 38, 3), (54, .iload 4, 2), (56, .aload_n 0, 1), (57, .iload_n 1, 1), (58, .iload 5, 2), (60, .invokevirtual 350, 3), (63, .aload_n 0, 1), (64, .iload_n 1, 1), (65, .iload 5, 2), (67, .iconst 1, 1), (68, .isub, 1), (69, .invokevirtual 350, 3), (72, .if_icmp .eq 7, 3), (75, .iconst 1, 1), (76, .goto 4, 3), (79, .iconst 0, 1), (80, .iadd, 1), (81, .istore 4, 2), (83, .iinc 5 1, 3), (86, .goto (-38), 3), (89, .iload 4, 2), (91, .ireturn, 1)]
theorem dX12_kinds : ∀ q ∈ tX12_kinds, decode mX12_kinds.2.1 q.1 = .ok q.2 := by decide +kernel
def tX12_lent : IT := [(0, .aload_n 0, 1), (1, .iload_n 1, 1), (2, .iload_n 2, 1), (3, .invokevirtual 407, 3), (6, .ifCond .eq 11, 3), (9, .aload_n 0, 1), (10, .iload_n 3, 1), (11, .invokevirtual 317, 3), (14, .ifCond .ne 6, 3), (17, .bipush (-2), 2), (19, .ireturn, 1), (20, .aload_n 0, 1), (21, .aload_n 0, 1), (22, .getfield 22, 3), (25, .invokevirtual 410, 3), (28, .aload_n 0, 1), (29, .getfield 22, 3), (32, .bipush 10, 2), (34, .iload_n 3, 1), (35, .imul, 1), (36, .iload_n 2, 1), (37, .iadd, 1), (38, .iaload, 1), (39, .istore 4, 2), (41, .aload_n 0, 1), (42, .getfield 60, 3), (45, .bipush 10, 2), (47, .iload_n 1, 1), (48, .imul, 1), (49, .iload_n 2, 1), (50, .iadd, 1), (51, .aload_n 0, 1), (52, .iload_n 2, 1), (53, .iload 4, 2), (55, .invokevirtual 350, 3), (58, .iastore, 1), (59, .aload_n 0, 1), (60, .getfield 63, 3), (63, .bipush 10, 2), (65, .iload_n 1, 1), (66, .imul, 1), (67, .iload_n 2, 1), (68, .iadd, 1), (69, .iload 4, 2), (71, .iconst (-1), 1), (72, .if_icmp .eq 7, 3), (75, .iconst 1, 1), (76, .goto 4, 3), (79, .iconst 0, 1), (80, .bastore, 1), (81, .aload_n 0, 1), (82, .iload_n 1, 1), (83, .invokevirtual 395, 3), (86, .ireturn, 1)]
theorem dX12_lent : ∀ q ∈ tX12_lent, decode mX12_lent.2.1 q.1 = .ok q.2 := by decide +kernel
def tX12_even : IT := [(0, .aload_n 0, 1), (1, .getfield 297, 3), (4, .ifCond .eq 15, 3), (7, .iload_n 1, 1), (8, .i2l, 1), (9, .lconst 0, 1), (10, .ldc2_w 175, 3), (13, .invokestatic 99, 3), (16, .ifCond .ne 6, 3), (19, .bipush (-2), 2), (21, .ireturn, 1), (22, .iconst 0, 1), (23, .istore_n 2, 1), (24, .iload_n 2, 1), (25, .sipush 2000, 3), (28, .if_icmp .gt 49, 3), (31, .iconst 0, 1), (32, .istore_n 3, 1), (33, .iconst 0, 1), (34, .istore 4, 2), (36, .iload 4, 2), (38, .aload_n 0, 1), (39, .getfield 300, 3), (42, .if_icmp .ge 22, 3), (45, .iload_n 3, 1), (46, .iload_n 2, 1), (47, .aload_n 0, 1), (48, .iload 4, 2), (50, .invokevirtual 356, 3), (53, .invokestatic 138, 3), (56, .iadd, 1), (57, .istore_n 3, 1), (58, .iinc 4 1, 3), (61, .goto (-25), 3), (64, .iload_n 3, 1), (65, .iload_n 1, 1), (66, .if_icmp .lt 5, 3), (69, .iload_n 2, 1), (70, .ireturn, 1), (71, .iinc 2 1, 3), (74, .goto (-50), 3), (77, .iconst (-1), 1), (78, .ireturn, 1)]
theorem dX12_even : ∀ q ∈ tX12_even, decode mX12_even.2.1 q.1 = .ok q.2 := by decide +kernel
def tX12_draw : IT := [(0, .aload_n 0, 1), (1, .ldc2_w 462, 3), (4, .aload_n 0, 1), (5, .getfield 464, 3), (8, .lmul, 1), (9, .ldc2_w 468, 3), (12, .ladd, 1), (13, .ldc2_w 470, 3), (16, .lrem, 1), (17, .putfield 464, 3), (20, .aload_n 0, 1), (21, .getfield 464, 3), (24, .ldc2_w 472, 3), (27, .ldiv, 1), (28, .iload_n 1, 1), (29, .i2l, 1), (30, .lrem, 1), (31, .l2i, 1), (32, .ireturn, 1)]
theorem dX12_draw : ∀ q ∈ tX12_draw, decode mX12_draw.2.1 q.1 = .ok q.2 := by decide +kernel
def tX12_meets : IT := [(0, .aload_n 0, 1), (1, .lload_n 1, 1), (2, .putfield 464, 3), (5, .iconst 0, 1), (6, .istore_n 3, 1), (7, .iload_n 3, 1), (8, .aload_n 0, 1), (9, .getfield 303, 3), (12, .if_icmp .ge 110, 3), (15, .iconst 0, 1), (16, .istore 4, 2), (18, .iload 4, 2), (20, .aload_n 0, 1), (21, .getfield 300, 3), (24, .if_icmp .ge 92, 3), (27, .bipush 10, 2), (29, .iload_n 3, 1), (30, .imul, 1), (31, .iload 4, 2), (33, .iadd, 1), (34, .istore 5, 2), (36, .aload_n 0, 1), (37, .getfield 80, 3), (40, .iload 5, 2), (42, .aload_n 0, 1), (43, .getfield 22, 3), (46, .iload 5, 2), (48, .iaload, 1), (49, .iastore, 1), (50, .aload_n 0, 1), (51, .getfield 22, 3), (54, .iload 5, 2), (56, .iaload, 1), (57, .iconst (-1), 1), (58, .if_icmp .ne 6, 3), (61, .goto 49, 3), (64, .aload_n 0, 1), (65, .iload 4, 2), (67, .iconst 5, 1), (68, .invokevirtual 325, 3), (71, .istore 6, 2), (73, .aload_n 0, 1), (74, .getfield 80, 3), (77, .iload 5, 2), (79, .iconst 0, 1), (80, .ldc 177, 2), (82, .aload_n 0, 1), (83, .getfield 22, 3), (86, .iload 5, 2), (88, .iaload, 1), (89, .aload_n 0, 1), (90, .iconst 2, 1), (91, .iload 6, 2), (93, .imul, 1), (94, .iconst 1, 1), (95, .iadd, 1), (96, .invokevirtual 474, 3), (99, .iadd, 1), (100, .iload 6, 2), (102, .isub, 1), (103, .invokestatic 138, 3), (106, .invokestatic 365, 3), (109, .iastore, 1), (110, .iinc 4 1, 3), (113, .goto (-95), 3), (116, .iinc 3 1, 3), (119, .goto (-112), 3), (122, .aload_n 0, 1), (123, .aload_n 0, 1), (124, .getfield 80, 3), (127, .invokevirtual 410, 3), (130, .return_, 1)]
theorem dX12_meets : ∀ q ∈ tX12_meets, decode mX12_meets.2.1 q.1 = .ok q.2 := by decide +kernel
def tX12_meet : IT := [(0, .aload_n 0, 1), (1, .getfield 297, 3), (4, .ifCond .eq 11, 3), (7, .iload_n 1, 1), (8, .ifCond .lt 7, 3), (11, .iload_n 2, 1), (12, .ifCond .ge 6, 3), (15, .bipush (-2), 2), (17, .ireturn, 1), (18, .aload_n 0, 1), (19, .iload_n 1, 1), (20, .i2l, 1), (21, .invokevirtual 477, 3), (24, .aload_n 0, 1), (25, .iload_n 2, 1), (26, .invokevirtual 414, 3), (29, .ireturn, 1)]
theorem dX12_meet : ∀ q ∈ tX12_meet, decode mX12_meet.2.1 q.1 = .ok q.2 := by decide +kernel
def tX12_met : IT := [(0, .iload_n 1, 1), (1, .ifCond .lt 11, 3), (4, .aload_n 0, 1), (5, .iload_n 2, 1), (6, .invokevirtual 317, 3), (9, .ifCond .ne 6, 3), (12, .bipush (-2), 2), (14, .ireturn, 1), (15, .aload_n 0, 1), (16, .iload_n 1, 1), (17, .i2l, 1), (18, .invokevirtual 477, 3), (21, .aload_n 0, 1), (22, .iload_n 2, 1), (23, .invokevirtual 395, 3), (26, .ireturn, 1)]
theorem dX12_met : ∀ q ∈ tX12_met, decode mX12_met.2.1 q.1 = .ok q.2 := by decide +kernel
def tX12_odds : IT := [(0, .iload_n 1, 1), (1, .ifCond .lt 35, 3), (4, .iload_n 2, 1), (5, .i2l, 1), (6, .lconst 1, 1), (7, .ldc2_w 481, 3), (10, .invokestatic 99, 3), (13, .ifCond .eq 23, 3), (16, .iload_n 1, 1), (17, .i2l, 1), (18, .iload_n 2, 1), (19, .i2l, 1), (20, .ladd, 1), (21, .ldc2_w 483, 3), (24, .lcmp, 1), (25, .ifCond .gt 11, 3), (28, .aload_n 0, 1), (29, .iload_n 3, 1), (30, .invokevirtual 317, 3), (33, .ifCond .ne 6, 3), (36, .bipush (-2), 2), (38, .ireturn, 1), (39, .iconst 0, 1), (40, .istore 4, 2), (42, .iconst 0, 1), (43, .istore 5, 2), (45, .iload 5, 2), (47, .iload_n 2, 1), (48, .if_icmp .ge 36, 3), (51, .aload_n 0, 1), (52, .iload_n 1, 1), (53, .iload 5, 2), (55, .iadd, 1), (56, .i2l, 1), (57, .invokevirtual 477, 3), (60, .iload 4, 2), (62, .aload_n 0, 1), (63, .iload_n 3, 1), (64, .invokevirtual 404, 3), (67, .ifCond .ne 7, 3), (70, .iconst 1, 1), (71, .goto 4, 3), (74, .iconst 0, 1), (75, .iadd, 1), (76, .istore 4, 2), (78, .iinc 5 1, 3), (81, .goto (-36), 3), (84, .iload 4, 2), (86, .ireturn, 1)]
theorem dX12_odds : ∀ q ∈ tX12_odds, decode mX12_odds.2.1 q.1 = .ok q.2 := by decide +kernel
def tX12_keeps : IT := [(0, .aload_n 0, 1), (1, .getfield 311, 3), (4, .bipush 10, 2), (6, .if_icmp .ne 46, 3), (9, .sipush 242, 3), (12, .istore_n 1, 1), (13, .iload_n 1, 1), (14, .sipush 2420, 3), (17, .if_icmp .ge 25, 3), (20, .aload_n 0, 1), (21, .getfield 83, 3), (24, .iload_n 1, 1), (25, .sipush 242, 3), (28, .isub, 1), (29, .aload_n 0, 1), (30, .getfield 83, 3), (33, .iload_n 1, 1), (34, .iaload, 1), (35, .iastore, 1), (36, .iinc 1 1, 3), (39, .goto (-26), 3), (42, .aload_n 0, 1), (43, .dup, 1), (44, .getfield 311, 3), (47, .iconst 1, 1), (48, .isub, 1), (49, .putfield 311, 3), (52, .sipush 242, 3), (55, .aload_n 0, 1), (56, .getfield 311, 3), (59, .imul, 1), (60, .istore_n 1, 1), (61, .aload_n 0, 1), (62, .getfield 83, 3), (65, .iload_n 1, 1), (66, .aload_n 0, 1), (67, .getfield 303, 3), (70, .iastore, 1), (71, .aload_n 0, 1), (72, .getfield 83, 3), (75, .iload_n 1, 1), (76, .iconst 1, 1), (77, .iadd, 1), (78, .aload_n 0, 1), (79, .getfield 309, 3), (82, .iastore, 1), (83, .iconst 0, 1), (84, .istore_n 2, 1), (85, .iload_n 2, 1), (86, .bipush 80, 2), (88, .if_icmp .ge 63, 3), (91, .aload_n 0, 1), (92, .getfield 83, 3), (95, .iload_n 1, 1), (96, .iconst 2, 1), (97, .iadd, 1), (98, .iconst 3, 1), (99, .iload_n 2, 1), (100, .imul, 1), (101, .iadd, 1), (102, .aload_n 0, 1), (103, .getfield 22, 3), (106, .iload_n 2, 1), (107, .iaload, 1), (108, .iastore, 1), (109, .aload_n 0, 1), (110, .getfield 83, 3), (113, .iload_n 1, 1), (114, .iconst 3, 1), (115, .iadd, 1), (116, .iconst 3, 1), (117, .iload_n 2, 1), (118, .imul, 1), (119, .iadd, 1), (120, .aload_n 0, 1), (121, .getfield 25, 3), (124, .iload_n 2, 1), (125, .iaload, 1), (126, .iastore, 1), (127, .aload_n 0, 1), (128, .getfield 83, 3), (131, .iload_n 1, 1), (132, .iconst 4, 1), (133, .iadd, 1), (134, .iconst 3, 1), (135, .iload_n 2, 1), (136, .imul, 1), (137, .iadd, 1), (138, .aload_n 0, 1), (139, .getfield 28, 3), (142, .iload_n 2, 1), (143, .iaload, 1), (144, .iastore, 1), (145, .iinc 2 1, 3), (148, .goto (-63), 3), (151, .aload_n 0, 1), (152, .dup, 1), (153, .getfield 311, 3), (156, .iconst 1, 1), (157, .iadd, 1), (158, .putfield 311, 3), (161, .return_, 1)]
theorem dX12_keeps : ∀ q ∈ tX12_keeps, decode mX12_keeps.2.1 q.1 = .ok q.2 := by decide +kernel
def tX12_undo : IT := [(0, .aload_n 0, 1), (1, .getfield 311, 3), (4, .ifCond .ne 5, 3), (7, .iconst (-1), 1), (8, .ireturn, 1), (9, .aload_n 0, 1), (10, .dup, 1), (11, .getfield 311, 3), (14, .iconst 1, 1), (15, .isub, 1), (16, .putfield 311, 3), (19, .sipush 242, 3), (22, .aload_n 0, 1), (23, .getfield 311, 3), (26, .imul, 1), (27, .istore_n 1, 1), (28, .aload_n 0, 1), (29, .aload_n 0, 1), (30, .getfield 83, 3), (33, .iload_n 1, 1), (34, .iaload, 1), (35, .putfield 303, 3), (38, .aload_n 0, 1), (39, .aload_n 0, 1), (40, .getfield 83, 3), (43, .iload_n 1, 1), (44, .iconst 1, 1), (45, .iadd, 1), (46, .iaload, 1), (47, .putfield 309, 3), (50, .iconst 0, 1), (51, .istore_n 2, 1), (52, .iload_n 2, 1), (53, .bipush 80, 2), (55, .if_icmp .ge 63, 3), (58, .aload_n 0, 1), (59, .getfield 22, 3), (62, .iload_n 2, 1), (63, .aload_n 0, 1), (64, .getfield 83, 3), (67, .iload_n 1, 1), (68, .iconst 2, 1), (69, .iadd, 1), (70, .iconst 3, 1), (71, .iload_n 2, 1), (72, .imul, 1), (73, .iadd, 1), (74, .iaload, 1), (75, .iastore, 1), (76, .aload_n 0, 1), (77, .getfield 25, 3), (80, .iload_n 2, 1), (81, .aload_n 0, 1), (82, .getfield 83, 3), (85, .iload_n 1, 1), (86, .iconst 3, 1), (87, .iadd, 1), (88, .iconst 3, 1), (89, .iload_n 2, 1), (90, .imul, 1), (91, .iadd, 1), (92, .iaload, 1), (93, .iastore, 1), (94, .aload_n 0, 1), (95, .getfield 28, 3), (98, .iload_n 2, 1), (99, .aload_n 0, 1), (100, .getfield 83, 3), (103, .iload_n 1, 1), (104, .iconst 4, 1), (105, .iadd, 1), (106, .iconst 3, 1), (107, .iload_n 2, 1), (108, .imul, 1), (109, .iadd, 1), (110, .iaload, 1), (111, .iastore, 1), (112, .iinc 2 1, 3), (115, .goto (-63), 3), (118, .aload_n 0, 1), (119, .getfield 311, 3), (122, .ireturn, 1)]
theorem dX12_undo : ∀ q ∈ tX12_undo, decode mX12_undo.2.1 q.1 = .ok q.2 := by decide +kernel
def tX12_sets : IT := [(0, .aload_n 0, 1), (1, .iload_n 1, 1), (2, .iload_n 2, 1), (3, .invokevirtual 407, 3), (6, .ifCond .eq 15, 3), (9, .iload_n 3, 1), (10, .iconst (-1), 1), (11, .if_icmp .eq 13, 3), (14, .iload_n 3, 1), (15, .invokestatic 347, 3), (18, .ifCond .ne 6, 3), (21, .bipush (-2), 2), (23, .ireturn, 1), (24, .bipush 10, 2), (26, .iload_n 1, 1), (27, .imul, 1), (28, .iload_n 2, 1), (29, .iadd, 1), (30, .istore 4, 2), (32, .aload_n 0, 1), (33, .getfield 22, 3), (36, .iload 4, 2), (38, .iaload, 1), (39, .istore 5, 2), (41, .iload 5, 2), (43, .iload_n 3, 1), (44, .if_icmp .ne 6, 3), (47, .iload 5, 2), (49, .ireturn, 1), (50, .aload_n 0, 1), (51, .invokevirtual 485, 3), (54, .aload_n 0, 1), (55, .getfield 22, 3), (58, .iload 4, 2), (60, .iload_n 3, 1), (61, .iastore, 1), (62, .iload 5, 2), (64, .ireturn, 1)]
theorem dX12_sets : ∀ q ∈ tX12_sets, decode mX12_sets.2.1 q.1 = .ok q.2 := by decide +kernel
def tX12_athlete : IT := [(0, .aload_n 0, 1), (1, .getfield 297, 3), (4, .ifCond .ne 6, 3), (7, .bipush (-2), 2), (9, .ireturn, 1), (10, .aload_n 0, 1), (11, .getfield 303, 3), (14, .bipush 8, 2), (16, .if_icmp .ne 6, 3), (19, .bipush (-5), 2), (21, .ireturn, 1), (22, .aload_n 0, 1), (23, .invokevirtual 485, 3), (26, .iconst 0, 1), (27, .istore_n 1, 1), (28, .iload_n 1, 1), (29, .bipush 10, 2), (31, .if_icmp .ge 54, 3), (34, .aload_n 0, 1), (35, .getfield 22, 3), (38, .bipush 10, 2), (40, .aload_n 0, 1), (41, .getfield 303, 3), (44, .imul, 1), (45, .iload_n 1, 1), (46, .iadd, 1), (47, .iconst (-1), 1), (48, .iastore, 1), (49, .aload_n 0, 1), (50, .getfield 25, 3), (53, .bipush 10, 2), (55, .aload_n 0, 1), (56, .getfield 303, 3), (59, .imul, 1), (60, .iload_n 1, 1), (61, .iadd, 1), (62, .iconst (-1), 1), (63, .iastore, 1), (64, .aload_n 0, 1), (65, .getfield 28, 3), (68, .bipush 10, 2), (70, .aload_n 0, 1), (71, .getfield 303, 3), (74, .imul, 1), (75, .iload_n 1, 1), (76, .iadd, 1), (77, .iconst (-1), 1), (78, .iastore, 1), (79, .iinc 1 1, 3), (82, .goto (-54), 3), (85, .aload_n 0, 1), (86, .dup, 1), (87, .getfield 303, 3), (90, .iconst 1, 1), (91, .iadd, 1), (92, .putfield 303, 3), (95, .aload_n 0, 1), (96, .getfield 303, 3), (99, .iconst 1, 1), (100, .isub, 1), (101, .ireturn, 1)]
theorem dX12_athlete : ∀ q ∈ tX12_athlete, decode mX12_athlete.2.1 q.1 = .ok q.2 := by decide +kernel
def tX12_gain : IT := [(0, .aload_n 0, 1), (1, .iload_n 1, 1), (2, .iload_n 2, 1), (3, .invokevirtual 407, 3), (6, .ifCond .eq 23, 3), (9, .iload_n 3, 1), (10, .invokestatic 347, 3), (13, .ifCond .eq 16, 3), (16, .iload 4, 2), (18, .i2l, 1), (19, .lconst 1, 1), (20, .ldc2_w 428, 3), (23, .invokestatic 99, 3), (26, .ifCond .ne 6, 3), (29, .bipush (-2), 2), (31, .ireturn, 1), (32, .bipush 10, 2), (34, .iload_n 1, 1), (35, .imul, 1), (36, .iload_n 2, 1), (37, .iadd, 1), (38, .istore 5, 2), (40, .aload_n 0, 1), (41, .getfield 25, 3), (44, .iload 5, 2), (46, .iaload, 1), (47, .istore 6, 2), (49, .iload 6, 2), (51, .iload_n 3, 1), (52, .if_icmp .ne 18, 3), (55, .aload_n 0, 1), (56, .getfield 28, 3), (59, .iload 5, 2), (61, .iaload, 1), (62, .iload 4, 2), (64, .if_icmp .ne 6, 3), (67, .iload 6, 2), (69, .ireturn, 1), (70, .aload_n 0, 1), (71, .invokevirtual 485, 3), (74, .aload_n 0, 1), (75, .getfield 25, 3), (78, .iload 5, 2), (80, .iload_n 3, 1), (81, .iastore, 1), (82, .aload_n 0, 1), (83, .getfield 28, 3), (86, .iload 5, 2), (88, .iload 4, 2), (90, .iastore, 1), (91, .iload 6, 2), (93, .ireturn, 1)]
theorem dX12_gain : ∀ q ∈ tX12_gain, decode mX12_gain.2.1 q.1 = .ok q.2 := by decide +kernel
def tX12_trains : IT := [(0, .aload_n 0, 1), (1, .iload_n 1, 1), (2, .iload_n 2, 1), (3, .invokevirtual 407, 3), (6, .ifCond .eq 15, 3), (9, .iload_n 3, 1), (10, .i2l, 1), (11, .lconst 0, 1), (12, .ldc2_w 428, 3), (15, .invokestatic 99, 3), (18, .ifCond .ne 6, 3), (21, .bipush (-2), 2), (23, .ireturn, 1), (24, .aload_n 0, 1), (25, .iload_n 1, 1), (26, .iload_n 2, 1), (27, .iload_n 3, 1), (28, .invokevirtual 430, 3), (31, .istore 4, 2), (33, .iload 4, 2), (35, .aload_n 0, 1), (36, .getfield 22, 3), (39, .bipush 10, 2), (41, .iload_n 1, 1), (42, .imul, 1), (43, .iload_n 2, 1), (44, .iadd, 1), (45, .iaload, 1), (46, .if_icmp .ne 6, 3), (49, .iload 4, 2), (51, .ireturn, 1), (52, .aload_n 0, 1), (53, .invokevirtual 485, 3), (56, .aload_n 0, 1), (57, .getfield 22, 3), (60, .bipush 10, 2), (62, .iload_n 1, 1), (63, .imul, 1), (64, .iload_n 2, 1), (65, .iadd, 1), (66, .iload 4, 2), (68, .iastore, 1), (69, .iload 4, 2), (71, .ireturn, 1)]
theorem dX12_trains : ∀ q ∈ tX12_trains, decode mX12_trains.2.1 q.1 = .ok q.2 := by decide +kernel
def tX12_tie : IT := [(0, .aload_n 0, 1), (1, .getfield 297, 3), (4, .ifCond .eq 15, 3), (7, .iload_n 1, 1), (8, .i2l, 1), (9, .lconst 0, 1), (10, .ldc2_w 330, 3), (13, .invokestatic 99, 3), (16, .ifCond .ne 6, 3), (19, .bipush (-2), 2), (21, .ireturn, 1), (22, .aload_n 0, 1), (23, .getfield 309, 3), (26, .istore_n 2, 1), (27, .iload_n 2, 1), (28, .iload_n 1, 1), (29, .if_icmp .ne 5, 3), (32, .iload_n 2, 1), (33, .ireturn, 1), (34, .aload_n 0, 1), (35, .invokevirtual 485, 3), (38, .aload_n 0, 1), (39, .iload_n 1, 1), (40, .putfield 309, 3), (43, .iload_n 2, 1), (44, .ireturn, 1)]
theorem dX12_tie : ∀ q ∈ tX12_tie, decode mX12_tie.2.1 q.1 = .ok q.2 := by decide +kernel
def tX12_says : IT := [(0, .aload_n 0, 1), (1, .getfield 86, 3), (4, .aload_n 0, 1), (5, .getfield 314, 3), (8, .iload_n 1, 1), (9, .i2b, 1), (10, .bastore, 1), (11, .aload_n 0, 1), (12, .dup, 1), (13, .getfield 314, 3), (16, .iconst 1, 1), (17, .iadd, 1), (18, .putfield 314, 3), (21, .return_, 1)]
theorem dX12_says : ∀ q ∈ tX12_says, decode mX12_says.2.1 q.1 = .ok q.2 := by decide +kernel
def tX12_saysNumber : IT := [(0, .iconst 1, 1), (1, .istore_n 2, 1), (2, .iload_n 1, 1), (3, .iload_n 2, 1), (4, .idiv, 1), (5, .bipush 10, 2), (7, .if_icmp .lt 11, 3), (10, .iload_n 2, 1), (11, .bipush 10, 2), (13, .imul, 1), (14, .istore_n 2, 1), (15, .goto (-13), 3), (18, .iload_n 2, 1), (19, .ifCond .le 24, 3), (22, .aload_n 0, 1), (23, .bipush 48, 2), (25, .iload_n 1, 1), (26, .iload_n 2, 1), (27, .idiv, 1), (28, .bipush 10, 2), (30, .irem, 1), (31, .iadd, 1), (32, .invokevirtual 488, 3), (35, .iload_n 2, 1), (36, .bipush 10, 2), (38, .idiv, 1), (39, .istore_n 2, 1), (40, .goto (-22), 3), (43, .return_, 1)]
theorem dX12_saysNumber : ∀ q ∈ tX12_saysNumber, decode mX12_saysNumber.2.1 q.1 = .ok q.2 := by decide +kernel
def tX12_tell : IT := [(0, .aload_n 0, 1), (1, .getfield 297, 3), (4, .ifCond .ne 6, 3), (7, .bipush (-2), 2), (9, .ireturn, 1), (10, .aload_n 0, 1), (11, .aload_n 0, 1), (12, .getfield 22, 3), (15, .invokevirtual 410, 3), (18, .aload_n 0, 1), (19, .iconst 0, 1), (20, .putfield 314, 3), (23, .iconst 0, 1), (24, .istore_n 1, 1), (25, .iload_n 1, 1), (26, .aload_n 0, 1), (27, .getfield 303, 3), (30, .if_icmp .ge 41, 3), (33, .aload_n 0, 1), (34, .iload_n 1, 1), (35, .invokevirtual 414, 3), (38, .istore_n 2, 1), (39, .aload_n 0, 1), (40, .iload_n 2, 1), (41, .invokevirtual 491, 3), (44, .aload_n 0, 1), (45, .bipush 32, 2), (47, .invokevirtual 488, 3), (50, .aload_n 0, 1), (51, .aload_n 0, 1), (52, .iload_n 2, 1), (53, .invokevirtual 395, 3), (56, .invokevirtual 491, 3), (59, .aload_n 0, 1), (60, .bipush 10, 2), (62, .invokevirtual 488, 3), (65, .iinc 1 1, 3), (68, .goto (-43), 3), (71, .aload_n 0, 1), (72, .getfield 314, 3), (75, .ireturn, 1)]
theorem dX12_tell : ∀ q ∈ tX12_tell, decode mX12_tell.2.1 q.1 = .ok q.2 := by decide +kernel
def tX12_card : IT := [(0, .aload_n 0, 1), (1, .iload_n 1, 1), (2, .invokevirtual 317, 3), (5, .ifCond .ne 6, 3), (8, .bipush (-2), 2), (10, .ireturn, 1), (11, .aload_n 0, 1), (12, .iconst 0, 1), (13, .putfield 314, 3), (16, .iconst 0, 1), (17, .istore_n 2, 1), (18, .iload_n 2, 1), (19, .aload_n 0, 1), (20, .getfield 300, 3), (23, .if_icmp .ge 55, 3), (26, .iload_n 2, 1), (27, .ifCond .le 9, 3), (30, .aload_n 0, 1), (31, .bipush 32, 2), (33, .invokevirtual 488, 3), (36, .aload_n 0, 1), (37, .getfield 22, 3), (40, .bipush 10, 2), (42, .iload_n 1, 1), (43, .imul, 1), (44, .iload_n 2, 1), (45, .iadd, 1), (46, .iaload, 1), (47, .istore_n 3, 1), (48, .iload_n 3, 1), (49, .iconst (-1), 1), (50, .if_icmp .ne 12, 3), (53, .aload_n 0, 1), (54, .bipush 45, 2), (56, .invokevirtual 488, 3), (59, .goto 13, 3), (62, .aload_n 0, 1), (63, .aload_n 0, 1), (64, .iload_n 2, 1), (65, .iload_n 3, 1), (66, .invokevirtual 350, 3), (69, .invokevirtual 491, 3), (72, .iinc 2 1, 3), (75, .goto (-57), 3), (78, .aload_n 0, 1), (79, .getfield 314, 3), (82, .ireturn, 1)]
theorem dX12_card : ∀ q ∈ tX12_card, decode mX12_card.2.1 q.1 = .ok q.2 := by decide +kernel
def tX12_octet : IT := [(0, .iload_n 1, 1), (1, .i2l, 1), (2, .lconst 0, 1), (3, .aload_n 0, 1), (4, .getfield 314, 3), (7, .iconst 1, 1), (8, .isub, 1), (9, .i2l, 1), (10, .invokestatic 99, 3), (13, .ifCond .eq 12, 3), (16, .aload_n 0, 1), (17, .getfield 86, 3), (20, .iload_n 1, 1), (21, .baload, 1), (22, .goto 4, 3), (25, .iconst (-1), 1), (26, .ireturn, 1)]
theorem dX12_octet : ∀ q ∈ tX12_octet, decode mX12_octet.2.1 q.1 = .ok q.2 := by decide +kernel
def tJ9_abs_0f7a4 : IT := [(0, .iload_n 0, 1), (1, .ifCond .ge 8, 3), (4, .iload_n 0, 1), (5, .ineg, 1), (6, .goto 4, 3), (9, .iload_n 0, 1), (10, .ireturn, 1)]
theorem dJ9_abs_0f7a4 : ∀ q ∈ tJ9_abs_0f7a4, decode mJ9_abs_0f7a4.2.1 q.1 = .ok q.2 := by decide +kernel
def tJ9_max_7cf53 : IT := [(0, .iload_n 0, 1), (1, .iload_n 1, 1), (2, .if_icmp .lt 7, 3), (5, .iload_n 0, 1), (6, .goto 4, 3), (9, .iload_n 1, 1), (10, .ireturn, 1)]
theorem dJ9_max_7cf53 : ∀ q ∈ tJ9_max_7cf53, decode mJ9_max_7cf53.2.1 q.1 = .ok q.2 := by decide +kernel
def tJ9_min_7cf53 : IT := [(0, .iload_n 0, 1), (1, .iload_n 1, 1), (2, .if_icmp .gt 7, 3), (5, .iload_n 0, 1), (6, .goto 4, 3), (9, .iload_n 1, 1), (10, .ireturn, 1)]
theorem dJ9_min_7cf53 : ∀ q ∈ tJ9_min_7cf53, decode mJ9_min_7cf53.2.1 q.1 = .ok q.2 := by decide +kernel
def tJ9_min_f86c9 : IT := [(0, .lload_n 0, 1), (1, .lload_n 2, 1), (2, .lcmp, 1), (3, .ifCond .gt 7, 3), (6, .lload_n 0, 1), (7, .goto 4, 3), (10, .lload_n 2, 1), (11, .lreturn, 1)]
theorem dJ9_min_f86c9 : ∀ q ∈ tJ9_min_f86c9, decode mJ9_min_f86c9.2.1 q.1 = .ok q.2 := by decide +kernel
def tJ0_length_8abf5 : IT := [(0, .aload_n 0, 1), (1, .getfield 9, 3), (4, .arraylength, 1), (5, .aload_n 0, 1), (6, .invokevirtual 335, 3), (9, .ishr, 1), (10, .ireturn, 1)]
theorem dJ0_length_8abf5 : ∀ q ∈ tJ0_length_8abf5, decode mJ0_length_8abf5.2.1 q.1 = .ok q.2 := by decide +kernel
def tJ0_charAt_5068e : IT := [(0, .aload_n 0, 1), (1, .invokevirtual 492, 3), (4, .ifCond .eq 12, 3), (7, .aload_n 0, 1), (8, .getfield 9, 3), (11, .iload_n 1, 1), (12, .invokestatic 495, 3), (15, .ireturn, 1), (16, .aload_n 0, 1), (17, .getfield 9, 3), (20, .iload_n 1, 1), (21, .invokestatic 498, 3), (24, .ireturn, 1)]
theorem dJ0_charAt_5068e : ∀ q ∈ tJ0_charAt_5068e, decode mJ0_charAt_5068e.2.1 q.1 = .ok q.2 := by decide +kernel
def tJ0_coder_7d493 : IT := [(0, .getstatic 38, 3), (3, .ifCond .eq 10, 3), (6, .aload_n 0, 1), (7, .getfield 15, 3), (10, .goto 4, 3), (13, .iconst 1, 1), (14, .ireturn, 1)]
theorem dJ0_coder_7d493 : ∀ q ∈ tJ0_coder_7d493, decode mJ0_coder_7d493.2.1 q.1 = .ok q.2 := by decide +kernel
def tJ0_isLatin1_aae02 : IT := [(0, .getstatic 38, 3), (3, .ifCond .eq 14, 3), (6, .aload_n 0, 1), (7, .getfield 15, 3), (10, .ifCond .ne 7, 3), (13, .iconst 1, 1), (14, .goto 4, 3), (17, .iconst 0, 1), (18, .ireturn, 1)]
theorem dJ0_isLatin1_aae02 : ∀ q ∈ tJ0_isLatin1_aae02, decode mJ0_isLatin1_aae02.2.1 q.1 = .ok q.2 := by decide +kernel
def tJ0_checkIndex_df160 : IT := [(0, .iload_n 0, 1), (1, .iload_n 1, 1), (2, .getstatic 1053, 3), (5, .invokestatic 1059, 3), (8, .pop, 1), (9, .return_, 1)]
theorem dJ0_checkIndex_df160 : ∀ q ∈ tJ0_checkIndex_df160, decode mJ0_checkIndex_df160.2.1 q.1 = .ok q.2 := by decide +kernel
def tJ1_charAt_3b067 : IT := [(0, .iload_n 1, 1), (1, .aload_n 0, 1), (2, .arraylength, 1), (3, .invokestatic 9, 3), (6, .aload_n 0, 1), (7, .iload_n 1, 1), (8, .baload, 1), (9, .sipush 255, 3), (12, .iand, 1), (13, .i2c, 1), (14, .ireturn, 1)]
theorem dJ1_charAt_3b067 : ∀ q ∈ tJ1_charAt_3b067, decode mJ1_charAt_3b067.2.1 q.1 = .ok q.2 := by decide +kernel
def tJ2_getChar_3b067 : IT := [(0, .getstatic 44, 3), (3, .ifCond .ne 25, 3), (6, .iload_n 1, 1), (7, .ifCond .lt 11, 3), (10, .iload_n 1, 1), (11, .aload_n 0, 1), (12, .invokestatic 48, 3), (15, .if_icmp .lt 13, 3), (18, .new 52, 3), (21, .dup, 1), (22, .ldc 54, 2), (24, .invokespecial 56, 3), (27, .athrow, 1), (28, .iload_n 1, 1), (29, .iconst 1, 1), (30, .ishl, 1), (31, .istore_n 1, 1), (32, .aload_n 0, 1), (33, .iload_n 1, 1), (34, .iinc 1 1, 3), (37, .baload, 1), (38, .sipush 255, 3), (41, .iand, 1), (42, .getstatic 59, 3), (45, .ishl, 1), (46, .aload_n 0, 1), (47, .iload_n 1, 1), (48, .baload, 1), (49, .sipush 255, 3), (52, .iand, 1), (53, .getstatic 63, 3), (56, .ishl, 1), (57, .ior, 1), (58, .i2c, 1), (59, .ireturn, 1)]
theorem dJ2_getChar_3b067 : ∀ q ∈ tJ2_getChar_3b067, decode mJ2_getChar_3b067.2.1 q.1 = .ok q.2 := by decide +kernel
def tJ2_length_9d52b : IT := [(0, .aload_n 0, 1), (1, .arraylength, 1), (2, .iconst 1, 1), (3, .ishr, 1), (4, .ireturn, 1)]
theorem dJ2_length_9d52b : ∀ q ∈ tJ2_length_9d52b, decode mJ2_length_9d52b.2.1 q.1 = .ok q.2 := by decide +kernel
def tJ2_charAt_3b067 : IT := [(0, .iload_n 1, 1), (1, .aload_n 0, 1), (2, .invokestatic 67, 3), (5, .aload_n 0, 1), (6, .iload_n 1, 1), (7, .invokestatic 71, 3), (10, .ireturn, 1)]
theorem dJ2_charAt_3b067 : ∀ q ∈ tJ2_charAt_3b067, decode mJ2_charAt_3b067.2.1 q.1 = .ok q.2 := by decide +kernel
def tJ2_checkIndex_2214a : IT := [(0, .iload_n 0, 1), (1, .aload_n 1, 1), (2, .invokestatic 48, 3), (5, .invokestatic 414, 3), (8, .return_, 1)]
theorem dJ2_checkIndex_2214a : ∀ q ∈ tJ2_checkIndex_2214a, decode mJ2_checkIndex_2214a.2.1 q.1 = .ok q.2 := by decide +kernel
def tJ3_checkIndex_8e157 : IT := [(0, .iload_n 0, 1), (1, .ifCond .lt 8, 3), (4, .iload_n 0, 1), (5, .iload_n 1, 1), (6, .if_icmp .lt 10, 3), (9, .aload_n 2, 1), (10, .iload_n 0, 1), (11, .iload_n 1, 1), (12, .invokestatic 95, 3), (15, .athrow, 1), (16, .iload_n 0, 1), (17, .ireturn, 1)]
theorem dJ3_checkIndex_8e157 : ∀ q ∈ tJ3_checkIndex_8e157, decode mJ3_checkIndex_8e157.2.1 q.1 = .ok q.2 := by decide +kernel
end
section
/-! THE WORLD: cells in the order in which they are made; a reference is a code: below 1000 a cell, from 1000 on an enum constant, from 2000 on a text, from 3000 on its bytes -/
abbrev GT : Type := Nat × va_G × (Nat → ClassId) × (Nat → Nat) × (Nat → Nat) × (Nat → Nat)
def gb (G : GT) : Nat := G.1
def gD (G : GT) : va_G := G.2.1
def gA (G : GT) : Nat → ClassId := G.2.2.1
def gE (G : GT) : Nat → Nat := G.2.2.2.1
def gK (G : GT) : Nat → Nat := G.2.2.2.2.1
def gV (G : GT) : Nat → Nat := G.2.2.2.2.2
def ra (G : GT) (r : Nat) : Nat := if r < 1000 then gb G + r else if r < 2000 then gE G (r - 1000) else if r < 3000 then gK G (r - 2000) else gV G (r - 3000)
def rv (G : GT) (r : Option Nat) : Value := va_rf (r.map (ra G))
theorem ra_lt (G : GT) {r : Nat} (h : r < 1000) : ra G r = gb G + r := if_pos h
theorem rv_some (G : GT) (r : Nat) : rv G (some r) = .ref (ra G r) := rfl
abbrev Wd : Type := Nat × (Nat → Nat × Nat) × (Nat → Nat → Int32) × (Nat → Nat → Int64) × (Nat → Nat → Option Nat)
/-- kinds of fields: 0 int or boolean, 1 long, 2 reference -/
def fkl : List (List Nat) := [[2, 0, 2, 2, 0, 0, 2, 0], [2, 2, 2, 2, 2, 0, 0, 0], [2, 2, 2, 2, 0], [2, 0], [0, 0, 2, 2, 0, 0, 0, 0], [2, 2, 0, 0, 0, 0, 0, 0, 0], [2, 2, 0], [], [2, 0, 0, 0, 2, 1], [2, 2, 2, 0, 2], [0, 0, 0, 0, 0, 0, 0, 2, 2], [2, 0, 2, 2, 2, 2, 0, 2, 2, 2, 2, 2], [0, 0, 0, 0, 0, 0, 2, 2, 2, 2, 2, 2, 2, 0, 0, 0, 0, 0, 0, 2, 2, 2, 2, 2, 2, 2, 2, 0, 0, 0, 0, 0, 0, 0, 0, 0, 2, 2, 2, 2, 2, 2, 2, 1, 0, 2, 2, 0]]
def fk (ci k : Nat) : Nat := (fkl.getD ci []).getD k 0
def fv (G : GT) (I : Nat → Nat → Int32) (L : Nat → Nat → Int64) (R : Nat → Nat → Option Nat) (a ci k : Nat) : Value := match fk ci k with
  | 0 => .int (I a k)
  | 1 => .long (L a k)
  | _ => rv G (R a k)
/-- kinds of cells: below 20 an object of that class, 20 int[], 21 byte[], 22 boolean[], 23 long[], 24 Sign[], 25 Trial[], 26 Score[], 27 int[][] -/
def ent (G : GT) (sh : Nat → Nat × Nat) (I : Nat → Nat → Int32) (L : Nat → Nat → Int64) (R : Nat → Nat → Option Nat) (a : Nat) : va_E :=
  if (sh a).1 < 20 then .inr ((sh a).1, (List.range (sh a).2).map (fv G I L R a (sh a).1))
  else if (sh a).1 < 23 then .inl (gA G ((sh a).1 - 20), (sh a).2, .inl (I a))
  else if (sh a).1 = 23 then .inl (gA G 3, (sh a).2, .inr (.inl (L a)))
  else .inl (gA G ((sh a).1 - 20), (sh a).2, .inr (.inr (.inr (.inr (fun j => (R a j).map (ra G))))))
def tysL (G : GT) : List (ClassId × FieldType) := [(gA G 0, .int), (gA G 1, .byte), (gA G 2, .boolean), (gA G 3, .long), (gA G 4, .object "TenTrials$Sign"), (gA G 5, .object "TenTrials$Trial"), (gA G 6, .object "TenTrials$Score"), (gA G 7, .array .int)]
def wsOf (G : GT) (w : Wd) : va_W := (List.range w.1).map (fun a => (gb G + a, ent G w.2.1 w.2.2.1 w.2.2.2.1 w.2.2.2.2 a))
def AG (G : GT) : Nat → Prop := fun q => gb G ≤ q
def HW (G : GT) (w : Wd) (H : Heap) : Prop := va_P (gD G) cls (wsOf G w) H ∧ H.size = gb G + w.1 ∧ w.1 < 1000
theorem wsOf_at {G : GT} {w : Wd} {a : Nat} (h : a < w.1) : (wsOf G w)[a]? = some (gb G + a, ent G w.2.1 w.2.2.1 w.2.2.2.1 w.2.2.2.2 a) := by
  unfold wsOf
  rw [List.getElem?_map, List.getElem?_range h]
  rfl
theorem wsOf_in {G : GT} {w : Wd} {a : Nat} {q : Nat × va_E} (h : (wsOf G w)[a]? = some q) : a < w.1 ∧ q = (gb G + a, ent G w.2.1 w.2.2.1 w.2.2.2.1 w.2.2.2.2 a) := by
  have hl := (List.getElem?_eq_some_iff.mp h).1
  have h1 : a < w.1 := by
    unfold wsOf at hl
    rw [List.length_map, List.length_range] at hl
    exact hl
  refine ⟨h1, ?_⟩
  rw [wsOf_at h1] at h
  exact (Option.some.inj h).symm
theorem wsOf_D (G : GT) (w : Wd) : va_D (AG G) (wsOf G w) := by
  refine ⟨fun i j p q hi hj e => ?_, fun k q hk => ?_⟩
  · obtain ⟨-, rfl⟩ := wsOf_in hi
    obtain ⟨-, rfl⟩ := wsOf_in hj
    have : gb G + i = gb G + j := e
    omega
  · obtain ⟨-, rfl⟩ := wsOf_in hk
    exact Nat.le_add_right _ _
theorem wsOf_set {G : GT} {w w' : Wd} {a : Nat} {e : va_E} (hN : w'.1 = w.1) (ha : a < w.1) (he : ent G w'.2.1 w'.2.2.1 w'.2.2.2.1 w'.2.2.2.2 a = e) (ho : ∀ b, b ≠ a → ent G w'.2.1 w'.2.2.1 w'.2.2.2.1 w'.2.2.2.2 b = ent G w.2.1 w.2.2.1 w.2.2.2.1 w.2.2.2.2 b) :
    (wsOf G w).set a (gb G + a, e) = wsOf G w' := by
  apply List.ext_getElem?
  intro i
  rw [List.getElem?_set]
  by_cases hi : i < w.1
  · rw [wsOf_at (w := w') (by rw [hN]; exact hi)]
    by_cases h : a = i
    · subst h
      have hl : a < (wsOf G w).length := by unfold wsOf; rw [List.length_map, List.length_range]; exact ha
      rw [if_pos rfl, if_pos hl, he]
    · rw [if_neg h, wsOf_at hi, ho i (fun z => h z.symm)]
  · have h1 : (wsOf G w')[i]? = none := List.getElem?_eq_none (by unfold wsOf; rw [List.length_map, List.length_range, hN]; omega)
    have h2 : (wsOf G w)[i]? = none := List.getElem?_eq_none (by unfold wsOf; rw [List.length_map, List.length_range]; omega)
    rw [h1, if_neg (by omega), h2]
theorem HW_set {G : GT} {w w' : Wd} {H H1 : Heap} {a : Nat} {e : va_E} (hH : HW G w H) (hN : w'.1 = w.1) (ha : a < w.1) (he : ent G w'.2.1 w'.2.2.1 w'.2.2.2.1 w'.2.2.2.2 a = e) (ho : ∀ b, b ≠ a → ent G w'.2.1 w'.2.2.1 w'.2.2.2.1 w'.2.2.2.2 b = ent G w.2.1 w.2.2.1 w.2.2.2.1 w.2.2.2.2 b)
    (hP : va_P (gD G) cls ((wsOf G w).set a (gb G + a, e)) H1) (hz : H1.size = H.size) : HW G w' H1 := by
  rw [wsOf_set hN ha he ho] at hP
  exact ⟨hP, by rw [hz, hN]; exact hH.2.1, by rw [hN]; exact hH.2.2⟩
/-! what the tables say -/
def tbl2 : List Cond := lw_tbl.filter goodWord
def wY (mi : MI) : List Cond := .code mi.1 mi.2.1 mi.2.2.1 mi.2.2.2 :: tbl2
theorem tbl2_good {w : Cond} (h : w ∈ tbl2) : (w.onTables && w.keeps) = true ∨ ∃ ty, w = .arrayClass ty := good_of_word (List.mem_filter.mp h).2
def inT (i : Nat) (w : Cond) : Bool := decide (nth lw_tbl i = some w) && goodWord w
theorem inT_mem {i : Nat} {w : Cond} (h : inT i w = true) : w ∈ tbl2 := by
  unfold inT at h
  rw [Bool.and_eq_true] at h
  exact List.mem_filter.mpr ⟨nth_mem (of_decide_eq_true h.1), h.2⟩
/-! locals -/
abbrev LV : Type := List (Option Value)
def lvl : Nat → LV → List (Nat × Value)
  | _, [] => []
  | i, some v :: t => (i, v) :: lvl (i + 1) t
  | i, none :: t => lvl (i + 1) t
def lg : LV → Nat → Option Value
  | [], _ => none
  | x :: _, 0 => x
  | _ :: t, n + 1 => lg t n
def c1 : Option Value → Option Value
  | some (.long _) => none
  | some (.double _) => none
  | x => x
/-- one slot -/
def lset : LV → Nat → Value → LV
  | [], _, _ => []
  | _ :: t, 0, v => some v :: t
  | x :: t, 1, v => c1 x :: lset t 0 v
  | x :: t, n + 2, v => x :: lset t (n + 1) v
/-- two slots -/
def l0 : LV → LV
  | [] => []
  | _ :: t => none :: t
def lset2 : LV → Nat → Value → LV
  | [], _, _ => []
  | _ :: t, 0, v => some v :: l0 t
  | x :: t, 1, v => c1 x :: lset2 t 0 v
  | x :: t, n + 2, v => x :: lset2 t (n + 1) v
theorem lvl_lg {v : Value} : ∀ {ls : LV} {i k : Nat}, lg ls k = some v → (i + k, v) ∈ lvl i ls
  | [], _, _, h => by cases h
  | some x :: t, i, 0, h => by cases h; exact List.mem_cons_self
  | none :: t, i, 0, h => by cases h
  | some x :: t, i, k + 1, h => by
    have := lvl_lg (ls := t) (i := i + 1) (k := k) h
    rw [show i + 1 + k = i + (k + 1) by omega] at this
    exact List.mem_cons_of_mem _ this
  | none :: t, i, k + 1, h => by
    have := lvl_lg (ls := t) (i := i + 1) (k := k) h
    rw [show i + 1 + k = i + (k + 1) by omega] at this
    exact this
theorem lvl_ge : ∀ {ls : LV} {i : Nat} {q : Nat × Value}, q ∈ lvl i ls → i ≤ q.1
  | [], _, _, h => by cases h
  | some x :: t, i, q, h => by
    rcases List.mem_cons.mp h with rfl | h
    · exact Nat.le_refl _
    · exact Nat.le_of_succ_le (lvl_ge h)
  | none :: t, i, q, h => Nat.le_of_succ_le (lvl_ge (ls := t) h)
theorem lvl_c1 {x : Option Value} {t : LV} {i : Nat} {q : Nat × Value} (h : q ∈ lvl i (c1 x :: t)) : (q.1 = i ∧ (∀ u : LV, q ∈ lvl i (x :: u)) ∧ ¬ q.2.category = 2) ∨ q ∈ lvl (i + 1) t := by
  cases x with
  | none => exact Or.inr h
  | some v =>
    cases v <;> first
      | exact Or.inr h
      | (rcases List.mem_cons.mp h with rfl | h
         · exact Or.inl ⟨rfl, fun u => List.mem_cons_self, by simp [Value.category]⟩
         · exact Or.inr h)
theorem lvl_tl {x : Option Value} {t : LV} {i : Nat} {q : Nat × Value} (h : q ∈ lvl (i + 1) t) : q ∈ lvl i (x :: t) := by
  cases x with
  | none => exact h
  | some v => exact List.mem_cons_of_mem _ h
theorem lvl_hd {x : Option Value} {t : LV} {i : Nat} {q : Nat × Value} (h : q ∈ lvl i (x :: t)) : (x = some q.2 ∧ q.1 = i) ∨ q ∈ lvl (i + 1) t := by
  cases x with
  | none => exact Or.inr h
  | some v =>
    rcases List.mem_cons.mp h with rfl | h
    · exact Or.inl ⟨rfl, rfl⟩
    · exact Or.inr h
theorem lvl_set {v : Value} : ∀ {ls : LV} {i k : Nat} {q : Nat × Value}, q ∈ lvl i (lset ls k v) → q = (i + k, v) ∨ (q ∈ lvl i ls ∧ ¬ q.1 = i + k ∧ ¬ (q.1 + 1 = i + k ∧ q.2.category = 2))
  | [], _, _, _, h => by cases h
  | x :: t, i, 0, q, h => by
    rcases List.mem_cons.mp h with rfl | h
    · exact Or.inl rfl
    · have := lvl_ge h
      exact Or.inr ⟨lvl_tl h, by omega, by omega⟩
  | x :: t, i, 1, q, h => by
    rcases lvl_c1 h with ⟨h1, h2, h3⟩ | h
    · right
      exact ⟨h2 _, by omega, fun z => h3 z.2⟩
    · rcases lvl_set (ls := t) (i := i + 1) (k := 0) h with rfl | ⟨h1, h2, h3⟩
      · exact Or.inl rfl
      · have := lvl_ge h1
        exact Or.inr ⟨lvl_tl h1, by omega, by omega⟩
  | x :: t, i, n + 2, q, h => by
    rcases lvl_hd h with ⟨h1, h2⟩ | h
    · right
      subst h1
      refine ⟨?_, by omega, by omega⟩
      rw [show q = (i, q.2) from Prod.ext h2 rfl]
      exact List.mem_cons_self
    · rcases lvl_set (ls := t) (i := i + 1) (k := n + 1) h with rfl | ⟨h1, h2, h3⟩
      · left
        exact Prod.ext (by show i + 1 + (n + 1) = i + (n + 2); omega) rfl
      · exact Or.inr ⟨lvl_tl h1, by omega, by omega⟩
theorem lvl_l0 {t : LV} {i : Nat} {q : Nat × Value} (h : q ∈ lvl i (l0 t)) : q ∈ lvl i t ∧ i + 1 ≤ q.1 := by
  cases t with
  | nil => cases h
  | cons x t =>
    have h : q ∈ lvl (i + 1) t := h
    exact ⟨lvl_tl h, lvl_ge h⟩
theorem lvl_set2 {v : Value} : ∀ {ls : LV} {i k : Nat} {q : Nat × Value}, q ∈ lvl i (lset2 ls k v) → q = (i + k, v) ∨ (q ∈ lvl i ls ∧ ¬ q.1 = i + k ∧ ¬ q.1 = i + k + 1 ∧ ¬ (q.1 + 1 = i + k ∧ q.2.category = 2))
  | [], _, _, _, h => by cases h
  | x :: t, i, 0, q, h => by
    rcases List.mem_cons.mp h with rfl | h
    · exact Or.inl rfl
    · obtain ⟨h1, h2⟩ := lvl_l0 h
      exact Or.inr ⟨lvl_tl h1, by omega, by omega, by omega⟩
  | x :: t, i, 1, q, h => by
    rcases lvl_c1 h with ⟨h1, h2, h3⟩ | h
    · right
      exact ⟨h2 _, by omega, by omega, fun z => h3 z.2⟩
    · rcases lvl_set2 (ls := t) (i := i + 1) (k := 0) h with rfl | ⟨h1, h2, h3, h4⟩
      · exact Or.inl rfl
      · have := lvl_ge h1
        exact Or.inr ⟨lvl_tl h1, by omega, by omega, by omega⟩
  | x :: t, i, n + 2, q, h => by
    rcases lvl_hd h with ⟨h1, h2⟩ | h
    · right
      subst h1
      refine ⟨?_, by omega, by omega, by omega⟩
      rw [show q = (i, q.2) from Prod.ext h2 rfl]
      exact List.mem_cons_self
    · rcases lvl_set2 (ls := t) (i := i + 1) (k := n + 1) h with rfl | ⟨h1, h2, h3, h4⟩
      · left
        exact Prod.ext (by show i + 1 + (n + 1) = i + (n + 2); omega) rfl
      · exact Or.inr ⟨lvl_tl h1, by omega, by omega, by omega⟩
theorem lv_has_sub {la : Array Slot} {nL : Nat} {l l' : List (Nat × Value)} (h : lv_has la nL l) (hs : ∀ q ∈ l', q ∈ l) : lv_has la nL l' := ⟨h.1, h.2.1, fun q hq => h.2.2 q (hs q hq)⟩
theorem lv_s1 {la : Array Slot} {nL : Nat} {ls : LV} {i : Nat} {v : Value} (h : lv_has la nL ((i, v) :: (lvl 0 ls).filter (fun q => !(q.1 == i) && !(q.1 + 1 == i && q.2.category == 2)))) : lv_has la nL (lvl 0 (lset ls i v)) := by
  refine lv_has_sub h (fun q hq => ?_)
  rcases lvl_set hq with rfl | ⟨h1, h2, h3⟩
  · rw [Nat.zero_add]
    exact List.mem_cons_self
  · refine List.mem_cons_of_mem _ (List.mem_filter.mpr ⟨h1, ?_⟩)
    rw [Nat.zero_add] at h2 h3
    simp only [Bool.and_eq_true, Bool.not_eq_true', beq_eq_false_iff_ne, ne_eq, Bool.and_eq_false_iff]
    refine ⟨h2, ?_⟩
    by_cases z : q.1 + 1 = i
    · exact Or.inr (fun z2 => h3 ⟨z, z2⟩)
    · exact Or.inl z
theorem lv_s2 {la : Array Slot} {nL : Nat} {ls : LV} {i : Nat} {v : Value} (h : lv_has la nL ((i, v) :: (lvl 0 ls).filter (fun q => !(q.1 == i) && (!(q.1 == i + 1) && !(q.1 + 1 == i && q.2.category == 2))))) : lv_has la nL (lvl 0 (lset2 ls i v)) := by
  refine lv_has_sub h (fun q hq => ?_)
  rcases lvl_set2 hq with rfl | ⟨h1, h2, h3, h4⟩
  · rw [Nat.zero_add]
    exact List.mem_cons_self
  · refine List.mem_cons_of_mem _ (List.mem_filter.mpr ⟨h1, ?_⟩)
    rw [Nat.zero_add] at h2 h3 h4
    simp only [Bool.and_eq_true, Bool.not_eq_true', beq_eq_false_iff_ne, ne_eq, Bool.and_eq_false_iff]
    refine ⟨h2, h3, ?_⟩
    by_cases z : q.1 + 1 = i
    · exact Or.inr (fun z2 => h4 ⟨z, z2⟩)
    · exact Or.inl z
end
section
/-! constants: the signs in their order, their spellings, the texts -/
def sgL : List String := ["EVENT", "RUN", "FIELD", "BASE", "BY", "SPREAD", "LINE_BY", "SQUARE_BY", "ROOT_BY", "TABLE_OF", "TIE", "NO_RULE", "BEST", "WINS", "BONUS", "WHEN", "ATHLETE", "MARK", "GAIN", "IN", "OR", "AND", "NOT", "POINTS", "TOTAL", "DONE", "LEAST", "SEMICOLON", "COLON", "COMMA", "LESS", "EQUAL", "MORE", "PLUS", "MINUS", "TEST_OPENS", "TEST_CLOSES", "SUM_OPENS", "SUM_CLOSES", "NUMBER", "STRANGE", "END"]
def spL : List Nat := [28, 30, 29, 31, 38, 39, 35, 36, 37, 32, 40, 41, 42, 43, 44, 45, 62, 63, 64, 65, 61, 60, 46, 51, 54, 52, 53, 66, 33, 34, 57, 58, 59, 55, 56, 47, 48, 49, 50, 27, 27, 27]
def stL : List (String × Nat × String × List Int32) := [("TenTrialsModel", 271, "event", [101, 118, 101, 110, 116]), ("TenTrialsModel", 187, "field", [102, 105, 101, 108, 100]), ("TenTrialsModel", 189, "run", [114, 117, 110]), ("TenTrialsModel", 191, "base", [98, 97, 115, 101]), ("TenTrialsModel", 197, "line", [108, 105, 110, 101]), ("TenTrialsModel", 199, "square", [115, 113, 117, 97, 114, 101]), ("TenTrialsModel", 201, "root", [114, 111, 111, 116]), ("TenTrialsModel", 203, "table", [116, 97, 98, 108, 101]), ("TenTrialsModel", 208, "by", [98, 121]), ("TenTrialsModel", 210, "spread", [115, 112, 114, 101, 97, 100]), ("TenTrialsModel", 275, "tie", [116, 105, 101]), ("TenTrialsModel", 264, "none", [110, 111, 110, 101]), ("TenTrialsModel", 233, "best", [98, 101, 115, 116]), ("TenTrialsModel", 266, "wins", [119, 105, 110, 115]), ("TenTrialsModel", 280, "bonus", [98, 111, 110, 117, 115]), ("TenTrialsModel", 258, "when", [119, 104, 101, 110]), ("TenTrialsModel", 240, "not", [110, 111, 116]), ("TenTrialsModel", 221, "points", [112, 111, 105, 110, 116, 115]), ("TenTrialsModel", 229, "total", [116, 111, 116, 97, 108]), ("TenTrialsModel", 231, "done", [100, 111, 110, 101]), ("TenTrialsModel", 235, "least", [108, 101, 97, 115, 116]), ("TenTrialsModel", 248, "and", [97, 110, 100]), ("TenTrialsModel", 253, "or", [111, 114]), ("TenTrialsModel", 284, "athlete", [97, 116, 104, 108, 101, 116, 101]), ("TenTrialsModel", 289, "mark", [109, 97, 114, 107]), ("TenTrialsModel", 291, "gain", [103, 97, 105, 110]), ("TenTrialsModel", 293, "in", [105, 110]), ("TenTrials$Sign", 284, "", []), ("TenTrials$Sign", 164, "event", [101, 118, 101, 110, 116]), ("TenTrials$Sign", 173, "field", [102, 105, 101, 108, 100]), ("TenTrials$Sign", 170, "run", [114, 117, 110]), ("TenTrials$Sign", 176, "base", [98, 97, 115, 101]), ("TenTrials$Sign", 194, "table", [116, 97, 98, 108, 101]), ("TenTrials$Sign", 251, ":", [58]), ("TenTrials$Sign", 254, ",", [44]), ("TenTrials$Sign", 185, "line", [108, 105, 110, 101]), ("TenTrials$Sign", 188, "square", [115, 113, 117, 97, 114, 101]), ("TenTrials$Sign", 191, "root", [114, 111, 111, 116]), ("TenTrials$Sign", 179, "by", [98, 121]), ("TenTrials$Sign", 182, "spread", [115, 112, 114, 101, 97, 100]), ("TenTrials$Sign", 197, "tie", [116, 105, 101]), ("TenTrials$Sign", 200, "none", [110, 111, 110, 101]), ("TenTrials$Sign", 203, "best", [98, 101, 115, 116]), ("TenTrials$Sign", 206, "wins", [119, 105, 110, 115]), ("TenTrials$Sign", 209, "bonus", [98, 111, 110, 117, 115]), ("TenTrials$Sign", 212, "when", [119, 104, 101, 110]), ("TenTrials$Sign", 233, "not", [110, 111, 116]), ("TenTrials$Sign", 272, "[", [91]), ("TenTrials$Sign", 275, "]", [93]), ("TenTrials$Sign", 278, "(", [40]), ("TenTrials$Sign", 281, ")", [41]), ("TenTrials$Sign", 236, "points", [112, 111, 105, 110, 116, 115]), ("TenTrials$Sign", 242, "done", [100, 111, 110, 101]), ("TenTrials$Sign", 245, "least", [108, 101, 97, 115, 116]), ("TenTrials$Sign", 239, "total", [116, 111, 116, 97, 108]), ("TenTrials$Sign", 266, "+", [43]), ("TenTrials$Sign", 269, "-", [45]), ("TenTrials$Sign", 257, "<", [60]), ("TenTrials$Sign", 260, "=", [61]), ("TenTrials$Sign", 263, ">", [62]), ("TenTrials$Sign", 230, "and", [97, 110, 100]), ("TenTrials$Sign", 227, "or", [111, 114]), ("TenTrials$Sign", 215, "athlete", [97, 116, 104, 108, 101, 116, 101]), ("TenTrials$Sign", 218, "mark", [109, 97, 114, 107]), ("TenTrials$Sign", 221, "gain", [103, 97, 105, 110]), ("TenTrials$Sign", 224, "in", [105, 110]), ("TenTrials$Sign", 248, ";", [59])]
def nsL : List (String × Nat × MethodName) := [("TenTrials", 15, ⟨"TenTrials$Page", "<init>", "()V"⟩), ("TenTrials", 22, ⟨"TenTrials$Reader", "<init>", "()V"⟩), ("TenTrials$Reader", 17, ⟨"TenTrials$Tokens", "<init>", "()V"⟩), ("TenTrials$Contest", 29, ⟨"TenTrials$Bonuses", "<init>", "()V"⟩), ("TenTrials$Contest", 34, ⟨"TenTrials$Trial", "<init>", "()V"⟩), ("TenTrials", 29, ⟨"TenTrials$History", "<init>", "()V"⟩), ("TenTrials", 43, ⟨"TenTrials$Score", "<init>", "()V"⟩), ("TenTrials$Standings", 21, ⟨"TenTrials$Score", "<init>", "()V"⟩), ("TenTrials", 57, ⟨"TenTrials$Shares", "<init>", "()V"⟩), ("TenTrials$Reader", 93, ⟨"TenTrials", "isWithin", "(III)Z"⟩), ("TenTrials$Contest", 48, ⟨"TenTrials", "cellOf", "(II)I"⟩), ("TenTrials$Reader", 107, ⟨"TenTrials", "cellOf", "(II)I"⟩), ("TenTrials$Score", 26, ⟨"TenTrials", "cellOf", "(II)I"⟩), ("TenTrials$Standings", 110, ⟨"TenTrials", "isWithin", "(III)Z"⟩), ("TenTrials$Standings", 62, ⟨"TenTrials", "cellOf", "(II)I"⟩)]
/-! what stays of the start: classes, constants -/
def stLen (i : Nat) : Nat := ((stL.getD i ("", 0, "", [])).2.2.2).length
def stByt (i j : Nat) : Int32 := ((stL.getD i ("", 0, "", [])).2.2.2).getD j 0
def spl (i : Nat) : Nat := spL.getD i 0
def sStr (G : GT) (U : State) (i : Nat) : Prop :=
  va_O "java/lang/String" (gK G i) (AG G) U U.heap ∧ va_OF "java/lang/String" "coder" "B" (.int 0) (gK G i) (AG G) U U.heap ∧ va_OF "java/lang/String" "value" "[B" (.ref (gV G i)) (gK G i) (AG G) U U.heap ∧ va_T .byte (gV G i) (stLen i) (fun j => .int (stByt i j)) (AG G) U U.heap
def sSgn (G : GT) (U : State) (i : Nat) : Prop :=
  va_Z "TenTrials$Sign" (sgL.getD i "") "LTenTrials$Sign;" (.ref (gE G i)) (AG G) U U.heap ∧ va_O "TenTrials$Sign" (gE G i) (AG G) U U.heap ∧ va_OF "TenTrials$Sign" "spelling" "Ljava/lang/String;" (.ref (gK G (spl i))) (gE G i) (AG G) U U.heap
/-- arrays of arrays -/
def va_AI (U : State) : Prop := (Cond.arrayOver (.array .int)).before #[] U = true
theorem va_AI.moved {u U : State} (hvm : u.vm.Alike U.vm) (h : va_AI u) : va_AI U := by
  obtain ⟨comp, c, k, h1, h2, h3, h4, h5⟩ := arrayOverA_spec h
  obtain ⟨k', hk', he⟩ := hvm.2.2 _ _ h3
  have hi : (U.vm.classes.findIdx? fun (x : Class) => match x.kind with | .array component _ => component == comp | _ => false) = some c := by
    have e1 := va_idx_bare U.vm comp
    have e2 := va_idx_bare u.vm comp
    rw [hvm.bare_eq] at e1
    exact e1.symm.trans (e2.trans h2)
  have hkind : k'.kind = .array comp (.array .int) := by rw [he]; exact h4
  have f1 : U.vm.findClass (FieldType.array .int).toString = some comp := by rw [hvm.findClass]; exact h1
  have f2 : U.vm.findClass ("[" ++ (FieldType.array .int).toString) = some c := by rw [hvm.findClass]; exact h5
  unfold va_AI Cond.before Cond.holds
  simp only [Cond.value]
  rw [f1, Option.bind_some]
  refine (congrArg (fun o : Option Nat => (o.bind (fun c => (U.vm.classes[c]?).map fun (k : Class) => match k.kind with | .array _ ty => decide (ty = FieldType.array .int) && decide (U.vm.findClass ("[" ++ (FieldType.array .int).toString) = some c) | _ => false) == some true)) hi).trans ?_
  simp [hk', hkind, f2]
/-- what makers of objects need -/
def GXs (U : State) : Prop := va_AO "TenTrials$Sign" U ∧ va_AO "TenTrials$Trial" U ∧ va_AO "TenTrials$Score" U ∧ va_AI U ∧ va_Nw (.castable "[LTenTrials$Sign;" "java/lang/Cloneable") U
theorem GXs.go {s U : State} (h : GXs s) (hW : s.WarmedH U.vm) : GXs U := ⟨h.1.moved hW.alike, h.2.1.moved hW.alike, h.2.2.1.moved hW.alike, h.2.2.2.1.moved hW.alike, va_Nw.warmC hW h.2.2.2.2⟩
def GS (G : GT) (U : State) : Prop :=
  (∀ q ∈ nsL, va_Nw (.methodLinkNest q.1 q.2.1 q.2.2 "TenTrials") U) ∧ (∀ i, i < 42 → sSgn G U i) ∧ (∀ i j, i < 42 → j < 42 → gE G i = gE G j → i = j) ∧
  (∀ i, i < 67 → sStr G U i) ∧ (∀ i q, stL[i]? = some q → vk_R q.1 q.2.1 q.2.2.1 (gK G i) U) ∧
  va_Z "java/lang/String" "COMPACT_STRINGS" "Z" (.int 1) (AG G) U U.heap ∧ va_Zq "jdk/internal/util/Preconditions" "SIOOBE_FORMATTER" "Ljava/util/function/BiFunction;" (AG G) U U.heap ∧
  (∃ t, va_Z "TenTrials$Sign" "$VALUES" "[LTenTrials$Sign;" (.ref t) (AG G) U U.heap ∧ va_T (.object "TenTrials$Sign") t 42 (fun j => .ref (gE G j)) (AG G) U U.heap ∧ ∀ cell : Cell, U.heap[t]? = some cell → cell.slots.size = 42 ∧ cell.cls = gA G 4) ∧ GXs U
def GW (G : GT) (U : State) : Prop := va_K (gD G) cls (tysL G) U ∧ GS G U
theorem GW_go {G : GT} {s U : State} {H : Heap} {locs : List Loc} (h : GW G s) (hS : va_S (AG G) s.heap H locs) (hU : U.heap = H) (hW : s.WarmedH U.vm) : GW G U := by
  have hv := hW.alike
  have hq : ∀ a : Nat, a < s.heap.size → ¬ AG G a → U.heap[a]? = s.heap[a]? := fun a h1 h2 => by rw [hU]; exact hS.2.1 a h1 h2
  obtain ⟨h0, h1, h2, h3, h4, h5, h6, h7, ⟨t, h8, h9, h10⟩, h11⟩ := h
  refine ⟨va_K.moved hv h0, fun q hm => va_Nw.warmM hW (h1 q hm), fun i hi => ?_, h3, fun i hi => ?_, fun i q hi => vk_R.warm hW (h5 i q hi), (h6.kept hq).moved hv, (h7.kept hq).moved hv, ⟨t, (h8.kept hq).moved hv, (h9.kept hq).moved hv, fun cell hc => ?_⟩, h11.go hW⟩
  · obtain ⟨g1, g2, g3⟩ := h2 i hi
    exact ⟨(g1.kept hq).moved hv, (g2.kept hq).moved hv, (g3.kept hq).moved hv⟩
  · obtain ⟨g1, g2, g3, g4⟩ := h4 i hi
    exact ⟨(g1.kept hq).moved hv, (g2.kept hq).moved hv, (g3.kept hq).moved hv, (g4.kept hq).moved hv⟩
  · obtain ⟨cell0, q1, -, -, -, -, -, q7⟩ := h9
    exact h10 cell (by rw [← hq t (Array.getElem?_eq_some_iff.mp q1).1 q7]; exact hc)
theorem GW_blind {G : GT} {U : State} (g : JFrame) (mk : MethodId) (a : Array Value) (h : GW G U) : GW G (U.calling g mk a) := by
  obtain ⟨h0, h1, h2, h3, h4, h5, h6, h7, ⟨t, h8, h9, h10⟩, h11⟩ := h
  have hv : U.vm.Alike (U.calling g mk a).vm := Vm.Alike.refl U.vm
  refine ⟨va_K.moved hv h0, fun q hm => va_Nw.same rfl rfl (h1 q hm), fun i hi => ?_, h3, fun i hi => ?_, fun i q hi => vk_R.same rfl (h5 i q hi), h6.moved hv, h7.moved hv, ⟨t, h8.moved hv, h9.moved hv, h10⟩, ⟨h11.1.moved hv, h11.2.1.moved hv, h11.2.2.1.moved hv, h11.2.2.2.1.moved hv, va_Nw.same rfl rfl h11.2.2.2.2⟩⟩
  · obtain ⟨g1, g2, g3⟩ := h2 i hi
    exact ⟨g1.moved hv, g2.moved hv, g3.moved hv⟩
  · obtain ⟨g1, g2, g3, g4⟩ := h4 i hi
    exact ⟨g1.moved hv, g2.moved hv, g3.moved hv, g4.moved hv⟩
/-! contracts, and the judgement on a place of a method -/
def rmD (d mc ms : Nat) : Room := { frames := d, cells := mc, slots := ms, locals := 60 * d }
def ZQ (G : GT) (Post : Option Value → Wd → Prop) : Array Value → State → Outcome → State → Prop := fun _ st oc t => (∃ r w', oc = .returned r ∧ Post r w' ∧ HW G w' t.heap) ∧ va_F (AG G) st t
/-- the contract: depth d, mc cells of ms slots are made -/
def Mt (l : Launch) (G : GT) (mi : MI) (d mc ms : Nat) (as : List Value) (w : Wd) (Post : Option Value → Wd → Prop) : Prop :=
  Met l mi.1 (wY mi) (rmD d mc ms) (va_Pc as (fun U => GW G U ∧ HW G w U.heap)) (ZQ G Post) mc ms (AG G)
abbrev ZT : Type := GT × Program × Launch × Env × Room × State × MethodId × Array Value × List Frame × Method × Code × (State → Prop) × Nat
abbrev zG (Z : ZT) : GT := Z.1
abbrev zp (Z : ZT) : Program := Z.2.1
abbrev zl (Z : ZT) : Launch := Z.2.2.1
abbrev ze (Z : ZT) : Env := Z.2.2.2.1
abbrev zR (Z : ZT) : Room := Z.2.2.2.2.1
abbrev zs (Z : ZT) : State := Z.2.2.2.2.2.1
abbrev zm (Z : ZT) : MethodId := Z.2.2.2.2.2.2.1
abbrev za (Z : ZT) : Array Value := Z.2.2.2.2.2.2.2.1
abbrev zb (Z : ZT) : List Frame := Z.2.2.2.2.2.2.2.2.1
abbrev zt (Z : ZT) : Method := Z.2.2.2.2.2.2.2.2.2.1
abbrev zc (Z : ZT) : Code := Z.2.2.2.2.2.2.2.2.2.2.1
abbrev zQ (Z : ZT) : State → Prop := Z.2.2.2.2.2.2.2.2.2.2.2.1
abbrev zn (Z : ZT) : Nat := Z.2.2.2.2.2.2.2.2.2.2.2.2
def J (Z : ZT) (cs : Nat × Nat) (pc : Nat) (ls : LV) (st : List Value) (w : Wd) : Prop :=
  ∀ (H : Heap) (locs : List Loc) (la : Array Slot), HW (zG Z) w H → va_S (AG (zG Z)) (zs Z).heap H locs → lv_has la (zn Z) (lvl 0 ls) → W (zp Z) (zl Z) (ze Z) (zR Z) (zs Z) (zm Z) (za Z) (zb Z) (zt Z) (zc Z) H locs cs.1 cs.2 (zQ Z) (F0 (zm Z) pc la st)
def CX (Z : ZT) (G : GT) (mi : MI) (own : String) : Prop :=
  (zp Z).tables.exec = Jvm.exec ∧ (zc Z).code = mi.2.1 ∧ zG Z = G ∧ (zc Z).maxLocals = zn Z ∧ zn Z = mi.2.2.1 ∧ (zs Z).vm.findClass own = some (zm Z).cls ∧ (∀ w ∈ tbl2, w.before (za Z) (zs Z) = true) ∧ (zt Z).locks = false ∧ GW G (zs Z) ∧ (zt Z).sig.returnType = mi.2.2.2 ∧ (zt Z).name = mi.1.name
def CP (Z : ZT) (mc ms : Nat) (Post : Option Value → Wd → Prop) : Prop := zQ Z = MQ (zb Z) (ZQ (zG Z) Post) (za Z) (zs Z) mc ms (AG (zG Z))
/-- the room: depth d below, cs made already -/
def RB (Z : ZT) (d mc ms : Nat) : Prop := d ≤ (zR Z).frames ∧ 60 * d ≤ (zR Z).locals ∧ mc ≤ (zR Z).cells ∧ ms ≤ (zR Z).slots
def args0 : List Value → Nat → LV
  | [], n => List.replicate n none
  | .long x :: t, n => some (.long x) :: none :: args0 t (n - 2)
  | .double x :: t, n => some (.double x) :: none :: args0 t (n - 2)
  | v :: t, n => some v :: args0 t (n - 1)
theorem lvl_none : ∀ (n i : Nat), lvl i (List.replicate n none) = []
  | 0, _ => rfl
  | n + 1, i => lvl_none n (i + 1)
theorem args0_in : ∀ (as : List Value) (n i : Nat) (q : Nat × Value), q ∈ lvl i (args0 as n) → q ∈ lv_args i as := by
  intro as
  induction as with
  | nil => intro n i q h; rw [args0, lvl_none] at h; cases h
  | cons v t ih =>
    intro n i q h
    cases v
    case long x =>
      rcases List.mem_cons.mp (show q ∈ (i, Value.long x) :: lvl (i + 1 + 1) (args0 t (n - 2)) from h) with rfl | h
      · exact List.mem_cons_self
      · exact List.mem_cons_of_mem _ (ih _ _ _ h)
    case double x =>
      rcases List.mem_cons.mp (show q ∈ (i, Value.double x) :: lvl (i + 1 + 1) (args0 t (n - 2)) from h) with rfl | h
      · exact List.mem_cons_self
      · exact List.mem_cons_of_mem _ (ih _ _ _ h)
    all_goals
      rcases List.mem_cons.mp (show q ∈ (i, _) :: lvl (i + 1) (args0 t (n - 1)) from h) with rfl | h
      · exact List.mem_cons_self
      · exact List.mem_cons_of_mem _ (ih _ _ _ h)
theorem mt_of {l : Launch} {G : GT} {mi : MI} {d mc ms : Nat} {as : List Value} {w : Wd} {Post : Option Value → Wd → Prop} {own : String} (hy : plainName mi.1.cls = true) (hown : mi.1.cls = own) (hlen : Nat.ble (lg_sl as).length mi.2.2.1 = true)
    (h : ∀ Z : ZT, CX Z G mi own → CP Z mc ms Post → RB Z d mc ms → J Z (0, 0) 0 (args0 as mi.2.2.1) [] w) : Mt l G mi d mc ms as w Post := by
  refine Met.ofW (cc := mi.2.1) (maxL := mi.2.2.1) (ret := mi.2.2.2) hy rfl ?_
  intro p e s m args below meth c s₁ B hml hv
  obtain ⟨rfl, hG, hH⟩ := hv
  have hts := atoms_spec (ws := wY mi) B.pre
  have K := h (G, p, l, e, (headSpec (wY mi) (rmD d mc ms)).room, s, m, as.toArray, below, meth, c, MQ below (ZQ G Post) as.toArray s mc ms (AG G), mi.2.2.1) ⟨B.exec, B.bytes, rfl, hml, rfl, by rw [← hown]; exact findClass_of_methodNamed B.named, fun w hw => hts w (List.mem_cons_of_mem _ hw), B.notSynchronized, hG, B.returns, (name_of_methodNamed B.named B.method).1⟩ rfl ⟨Nat.le_refl _, Nat.le_refl _, Nat.le_refl _, Nat.le_refl _⟩
  rw [lg_entry_eq]
  exact K s.heap [] _ hH va_S.rf (lv_has_sub (lv_entry as (Nat.le_of_ble_eq_true hlen)) (args0_in as _ 0))
end
section
section RULES
variable {Z : ZT} {G : GT} {mi : MI} {own : String} {cs : Nat × Nat} {pc : Nat} {ls : LV} {st : List Value} {w : Wd} {N : Nat} {sh : Nat → Nat × Nat} {I : Nat → Nat → Int32} {L : Nat → Nat → Int64} {R : Nat → Nat → Option Nat}
theorem j_iconst (C : CX Z G mi own) {n : Int} {v : Int32} (hd : decode mi.2.1 pc = .ok (.iconst n, 1)) (hv : Int32.ofInt n = v) (k : J Z cs (pc + 1) ls (.int v :: st) w) : J Z cs pc ls (st) w :=
  fun H locs la hH hS hl => lv_iconst C.1 C.2.1 hd hv (k H locs la hH hS hl)
theorem j_bipush (C : CX Z G mi own) {n : Int} {v : Int32} (hd : decode mi.2.1 pc = .ok (.bipush n, 2)) (hv : (Int8.ofInt n).toInt32 = v) (k : J Z cs (pc + 2) ls (.int v :: st) w) : J Z cs pc ls (st) w :=
  fun H locs la hH hS hl => lv_bipush C.1 C.2.1 hd hv (k H locs la hH hS hl)
theorem j_sipush (C : CX Z G mi own) {n : Int} {v : Int32} (hd : decode mi.2.1 pc = .ok (.sipush n, 3)) (hv : (Int16.ofInt n).toInt32 = v) (k : J Z cs (pc + 3) ls (.int v :: st) w) : J Z cs pc ls (st) w :=
  fun H locs la hH hS hl => lv_sipush C.1 C.2.1 hd hv (k H locs la hH hS hl)
theorem j_lconst (C : CX Z G mi own) {n : Fin 2} {v : Int64} (hd : decode mi.2.1 pc = .ok (.lconst n, 1)) (hv : Int64.ofNat (n : Nat) = v) (k : J Z cs (pc + 1) ls (.long v :: st) w) : J Z cs pc ls (st) w :=
  fun H locs la hH hS hl => lv_lconst C.1 C.2.1 hd hv (k H locs la hH hS hl)
theorem j_ldc (C : CX Z G mi own) {idx : Nat} {v : Int32} (hd : decode mi.2.1 pc = .ok (.ldc idx, 2)) (hc : Cond.constant own idx v ∈ tbl2) (k : J Z cs (pc + 2) ls (.int v :: st) w) : J Z cs pc ls (st) w :=
  fun H locs la hH hS hl => lv_ldc C.1 C.2.1 C.2.2.2.2.2.1 (C.2.2.2.2.2.2.1 _ hc) hd (k H locs la hH hS hl)
theorem j_ldc_w (C : CX Z G mi own) {idx : Nat} {v : Int32} (hd : decode mi.2.1 pc = .ok (.ldc_w idx, 3)) (hc : Cond.constant own idx v ∈ tbl2) (k : J Z cs (pc + 3) ls (.int v :: st) w) : J Z cs pc ls (st) w :=
  fun H locs la hH hS hl => lv_ldcw C.1 C.2.1 C.2.2.2.2.2.1 (C.2.2.2.2.2.2.1 _ hc) hd (k H locs la hH hS hl)
theorem j_ldc2_w (C : CX Z G mi own) {idx : Nat} {v : Int64} (hd : decode mi.2.1 pc = .ok (.ldc2_w idx, 3)) (hc : Cond.constantLong own idx v ∈ tbl2) (k : J Z cs (pc + 3) ls (.long v :: st) w) : J Z cs pc ls (st) w :=
  fun H locs la hH hS hl => lv_ldc2 C.1 C.2.1 C.2.2.2.2.2.1 (C.2.2.2.2.2.2.1 _ hc) hd (k H locs la hH hS hl)
theorem lv_get {la : Array Slot} {nL : Nat} {ls : LV} {i : Nat} {v : Value} (h : lv_has la nL (lvl 0 ls)) (hg : lg ls i = some v) : la[i]? = some (.val v) := by
  have := h.2.2 _ (lvl_lg (i := 0) hg)
  rwa [Nat.zero_add] at this
theorem j_iload_n (C : CX Z G mi own) {k9 : Fin 4} {x : Int32} (hd : decode mi.2.1 pc = .ok (.iload_n k9, 1)) (hg : lg ls k9.val = some (.int x)) (k : J Z cs (pc + 1) ls (.int x :: st) w) : J Z cs pc ls (st) w :=
  fun H locs la hH hS hl => lv_iload_n C.1 C.2.1 hd rfl (lv_get hl hg) (k H locs la hH hS hl)
theorem j_iload (C : CX Z G mi own) {k9 : Nat} {x : Int32} (hd : decode mi.2.1 pc = .ok (.iload k9, 2)) (hg : lg ls k9 = some (.int x)) (k : J Z cs (pc + 2) ls (.int x :: st) w) : J Z cs pc ls (st) w :=
  fun H locs la hH hS hl => lv_iload C.1 C.2.1 hd (lv_get hl hg) (k H locs la hH hS hl)
theorem j_istore_n (C : CX Z G mi own) {k9 : Fin 4} {x : Int32} (hd : decode mi.2.1 pc = .ok (.istore_n k9, 1)) (hn : Nat.ble (k9.val + 1) mi.2.2.1 = true) (k : J Z cs (pc + 1) (lset ls k9.val (.int x)) st w) : J Z cs pc ls (.int x :: st) w :=
  fun H locs la hH hS hl => lv_istore_n C.1 C.2.1 hd rfl hl (by rw [C.2.2.2.2.1]; exact Nat.le_of_ble_eq_true hn) rfl (fun la' hl' => k H locs la' hH hS (lv_s1 hl'))
theorem j_istore (C : CX Z G mi own) {k9 : Nat} {x : Int32} (hd : decode mi.2.1 pc = .ok (.istore k9, 2)) (hn : Nat.ble (k9 + 1) mi.2.2.1 = true) (k : J Z cs (pc + 2) (lset ls k9 (.int x)) st w) : J Z cs pc ls (.int x :: st) w :=
  fun H locs la hH hS hl => lv_istore C.1 C.2.1 hd hl (by rw [C.2.2.2.2.1]; exact Nat.le_of_ble_eq_true hn) rfl (fun la' hl' => k H locs la' hH hS (lv_s1 hl'))
theorem j_lload_n (C : CX Z G mi own) {k9 : Fin 4} {x : Int64} (hd : decode mi.2.1 pc = .ok (.lload_n k9, 1)) (hg : lg ls k9.val = some (.long x)) (k : J Z cs (pc + 1) ls (.long x :: st) w) : J Z cs pc ls (st) w :=
  fun H locs la hH hS hl => lv_lload_n C.1 C.2.1 hd rfl (lv_get hl hg) (k H locs la hH hS hl)
theorem j_lload (C : CX Z G mi own) {k9 : Nat} {x : Int64} (hd : decode mi.2.1 pc = .ok (.lload k9, 2)) (hg : lg ls k9 = some (.long x)) (k : J Z cs (pc + 2) ls (.long x :: st) w) : J Z cs pc ls (st) w :=
  fun H locs la hH hS hl => lv_lload C.1 C.2.1 hd (lv_get hl hg) (k H locs la hH hS hl)
theorem j_lstore_n (C : CX Z G mi own) {k9 : Fin 4} {x : Int64} (hd : decode mi.2.1 pc = .ok (.lstore_n k9, 1)) (hn : Nat.ble (k9.val + 2) mi.2.2.1 = true) (k : J Z cs (pc + 1) (lset2 ls k9.val (.long x)) st w) : J Z cs pc ls (.long x :: st) w :=
  fun H locs la hH hS hl => lv_lstore_n C.1 C.2.1 hd rfl hl (by rw [C.2.2.2.2.1]; exact Nat.le_of_ble_eq_true hn) rfl (fun la' hl' => k H locs la' hH hS (lv_s2 hl'))
theorem j_lstore (C : CX Z G mi own) {k9 : Nat} {x : Int64} (hd : decode mi.2.1 pc = .ok (.lstore k9, 2)) (hn : Nat.ble (k9 + 2) mi.2.2.1 = true) (k : J Z cs (pc + 2) (lset2 ls k9 (.long x)) st w) : J Z cs pc ls (.long x :: st) w :=
  fun H locs la hH hS hl => lv_lstore C.1 C.2.1 hd hl (by rw [C.2.2.2.2.1]; exact Nat.le_of_ble_eq_true hn) rfl (fun la' hl' => k H locs la' hH hS (lv_s2 hl'))
theorem j_aload_n (C : CX Z G mi own) {k9 : Fin 4} {x : Nat} (hd : decode mi.2.1 pc = .ok (.aload_n k9, 1)) (hg : lg ls k9.val = some (.ref x)) (k : J Z cs (pc + 1) ls (.ref x :: st) w) : J Z cs pc ls (st) w :=
  fun H locs la hH hS hl => lv_aload_n C.1 C.2.1 hd rfl (lv_get hl hg) (k H locs la hH hS hl)
theorem j_aload (C : CX Z G mi own) {k9 : Nat} {x : Nat} (hd : decode mi.2.1 pc = .ok (.aload k9, 2)) (hg : lg ls k9 = some (.ref x)) (k : J Z cs (pc + 2) ls (.ref x :: st) w) : J Z cs pc ls (st) w :=
  fun H locs la hH hS hl => lv_aload C.1 C.2.1 hd (lv_get hl hg) (k H locs la hH hS hl)
theorem j_astore_n (C : CX Z G mi own) {k9 : Fin 4} {x : Nat} (hd : decode mi.2.1 pc = .ok (.astore_n k9, 1)) (hn : Nat.ble (k9.val + 1) mi.2.2.1 = true) (k : J Z cs (pc + 1) (lset ls k9.val (.ref x)) st w) : J Z cs pc ls (.ref x :: st) w :=
  fun H locs la hH hS hl => lv_astore_n C.1 C.2.1 hd rfl hl (by rw [C.2.2.2.2.1]; exact Nat.le_of_ble_eq_true hn) rfl (fun la' hl' => k H locs la' hH hS (lv_s1 hl'))
theorem j_astore (C : CX Z G mi own) {k9 : Nat} {x : Nat} (hd : decode mi.2.1 pc = .ok (.astore k9, 2)) (hn : Nat.ble (k9 + 1) mi.2.2.1 = true) (k : J Z cs (pc + 2) (lset ls k9 (.ref x)) st w) : J Z cs pc ls (.ref x :: st) w :=
  fun H locs la hH hS hl => lv_astore C.1 C.2.1 hd hl (by rw [C.2.2.2.2.1]; exact Nat.le_of_ble_eq_true hn) rfl (fun la' hl' => k H locs la' hH hS (lv_s1 hl'))
theorem j_iinc (C : CX Z G mi own) {k9 : Nat} {n : Int} {x v : Int32} (hd : decode mi.2.1 pc = .ok (.iinc k9 n, 3)) (hn : Nat.ble (k9 + 1) mi.2.2.1 = true) (hg : lg ls k9 = some (.int x)) (hv : x + Int32.ofInt n = v) (k : J Z cs (pc + 3) (lset ls k9 (.int v)) st w) : J Z cs pc ls st w := by
  intro H locs la hH hS hl
  have hm := lvl_lg (i := 0) hg
  rw [Nat.zero_add] at hm
  obtain ⟨j, hj⟩ := List.getElem?_of_mem hm
  exact lv_iinc C.1 C.2.1 hd hl hj hv (by rw [C.2.2.2.2.1]; exact Nat.le_of_ble_eq_true hn) rfl (fun la' hl' => k H locs la' hH hS (lv_s1 hl'))
theorem j_iadd (C : CX Z G mi own) {x y : Int32} (hd : decode mi.2.1 pc = .ok (.iadd, 1))  (k : J Z cs (pc + 1) ls (.int (x + y) :: st) w) : J Z cs pc ls (.int y :: .int x :: st) w :=
  fun H locs la hH hS hl => lv_iadd C.1 C.2.1 hd (k H locs la hH hS hl)
theorem j_isub (C : CX Z G mi own) {x y : Int32} (hd : decode mi.2.1 pc = .ok (.isub, 1))  (k : J Z cs (pc + 1) ls (.int (x - y) :: st) w) : J Z cs pc ls (.int y :: .int x :: st) w :=
  fun H locs la hH hS hl => lv_isub C.1 C.2.1 hd (k H locs la hH hS hl)
theorem j_imul (C : CX Z G mi own) {x y : Int32} (hd : decode mi.2.1 pc = .ok (.imul, 1))  (k : J Z cs (pc + 1) ls (.int (x * y) :: st) w) : J Z cs pc ls (.int y :: .int x :: st) w :=
  fun H locs la hH hS hl => lv_imul C.1 C.2.1 hd (k H locs la hH hS hl)
theorem j_iand (C : CX Z G mi own) {x y : Int32} (hd : decode mi.2.1 pc = .ok (.iand, 1))  (k : J Z cs (pc + 1) ls (.int (x &&& y) :: st) w) : J Z cs pc ls (.int y :: .int x :: st) w :=
  fun H locs la hH hS hl => lv_iand C.1 C.2.1 hd (k H locs la hH hS hl)
theorem j_ior (C : CX Z G mi own) {x y : Int32} (hd : decode mi.2.1 pc = .ok (.ior, 1))  (k : J Z cs (pc + 1) ls (.int (x ||| y) :: st) w) : J Z cs pc ls (.int y :: .int x :: st) w :=
  fun H locs la hH hS hl => lv_ior C.1 C.2.1 hd (k H locs la hH hS hl)
theorem j_ishl (C : CX Z G mi own) {x y : Int32} (hd : decode mi.2.1 pc = .ok (.ishl, 1))  (k : J Z cs (pc + 1) ls (.int (x <<< (y &&& 31)) :: st) w) : J Z cs pc ls (.int y :: .int x :: st) w :=
  fun H locs la hH hS hl => lv_ishl C.1 C.2.1 hd (k H locs la hH hS hl)
theorem j_ishr (C : CX Z G mi own) {x y : Int32} (hd : decode mi.2.1 pc = .ok (.ishr, 1))  (k : J Z cs (pc + 1) ls (.int (x >>> (y &&& 31)) :: st) w) : J Z cs pc ls (.int y :: .int x :: st) w :=
  fun H locs la hH hS hl => lv_ishr C.1 C.2.1 hd (k H locs la hH hS hl)
theorem j_ladd (C : CX Z G mi own) {x y : Int64} (hd : decode mi.2.1 pc = .ok (.ladd, 1))  (k : J Z cs (pc + 1) ls (.long (x + y) :: st) w) : J Z cs pc ls (.long y :: .long x :: st) w :=
  fun H locs la hH hS hl => lv_ladd C.1 C.2.1 hd (k H locs la hH hS hl)
theorem j_lsub (C : CX Z G mi own) {x y : Int64} (hd : decode mi.2.1 pc = .ok (.lsub, 1))  (k : J Z cs (pc + 1) ls (.long (x - y) :: st) w) : J Z cs pc ls (.long y :: .long x :: st) w :=
  fun H locs la hH hS hl => lv_lsub C.1 C.2.1 hd (k H locs la hH hS hl)
theorem j_lmul (C : CX Z G mi own) {x y : Int64} (hd : decode mi.2.1 pc = .ok (.lmul, 1))  (k : J Z cs (pc + 1) ls (.long (x * y) :: st) w) : J Z cs pc ls (.long y :: .long x :: st) w :=
  fun H locs la hH hS hl => lv_lmul C.1 C.2.1 hd (k H locs la hH hS hl)
theorem j_land (C : CX Z G mi own) {x y : Int64} (hd : decode mi.2.1 pc = .ok (.land, 1))  (k : J Z cs (pc + 1) ls (.long (x &&& y) :: st) w) : J Z cs pc ls (.long y :: .long x :: st) w :=
  fun H locs la hH hS hl => lv_land C.1 C.2.1 hd (k H locs la hH hS hl)
theorem j_lor (C : CX Z G mi own) {x y : Int64} (hd : decode mi.2.1 pc = .ok (.lor, 1))  (k : J Z cs (pc + 1) ls (.long (x ||| y) :: st) w) : J Z cs pc ls (.long y :: .long x :: st) w :=
  fun H locs la hH hS hl => lv_lor C.1 C.2.1 hd (k H locs la hH hS hl)
theorem j_idiv (C : CX Z G mi own) {x y : Int32} (hd : decode mi.2.1 pc = .ok (.idiv, 1)) (hne : ¬ y = 0) (k : J Z cs (pc + 1) ls (.int (x / y) :: st) w) : J Z cs pc ls (.int y :: .int x :: st) w :=
  fun H locs la hH hS hl => lv_idiv C.1 C.2.1 hd hne (k H locs la hH hS hl)
theorem j_irem (C : CX Z G mi own) {x y : Int32} (hd : decode mi.2.1 pc = .ok (.irem, 1)) (hne : ¬ y = 0) (k : J Z cs (pc + 1) ls (.int (x - x / y * y) :: st) w) : J Z cs pc ls (.int y :: .int x :: st) w :=
  fun H locs la hH hS hl => lv_irem C.1 C.2.1 hd hne (k H locs la hH hS hl)
theorem j_ldiv (C : CX Z G mi own) {x y : Int64} (hd : decode mi.2.1 pc = .ok (.ldiv, 1)) (hne : ¬ y = 0) (k : J Z cs (pc + 1) ls (.long (x / y) :: st) w) : J Z cs pc ls (.long y :: .long x :: st) w :=
  fun H locs la hH hS hl => lv_ldiv C.1 C.2.1 hd hne (k H locs la hH hS hl)
theorem j_lrem (C : CX Z G mi own) {x y : Int64} (hd : decode mi.2.1 pc = .ok (.lrem, 1)) (hne : ¬ y = 0) (k : J Z cs (pc + 1) ls (.long (x - x / y * y) :: st) w) : J Z cs pc ls (.long y :: .long x :: st) w :=
  fun H locs la hH hS hl => lv_lrem C.1 C.2.1 hd hne (k H locs la hH hS hl)
theorem j_lcmp (C : CX Z G mi own) {x y : Int64} (hd : decode mi.2.1 pc = .ok (.lcmp, 1))  (k : J Z cs (pc + 1) ls (.int (lg_cmp x y) :: st) w) : J Z cs pc ls (.long y :: .long x :: st) w :=
  fun H locs la hH hS hl => W.lcmp C.1 C.2.1 hd (k H locs la hH hS hl)
theorem j_ineg (C : CX Z G mi own) {x : Int32} (hd : decode mi.2.1 pc = .ok (.ineg, 1))  (k : J Z cs (pc + 1) ls (.int (-x) :: st) w) : J Z cs pc ls (.int x :: st) w :=
  fun H locs la hH hS hl => lv_ineg C.1 C.2.1 hd (k H locs la hH hS hl)
theorem j_i2l (C : CX Z G mi own) {x : Int32} (hd : decode mi.2.1 pc = .ok (.i2l, 1))  (k : J Z cs (pc + 1) ls (.long x.toInt64 :: st) w) : J Z cs pc ls (.int x :: st) w :=
  fun H locs la hH hS hl => lv_i2l C.1 C.2.1 hd rfl (k H locs la hH hS hl)
theorem j_l2i (C : CX Z G mi own) {x : Int64} (hd : decode mi.2.1 pc = .ok (.l2i, 1))  (k : J Z cs (pc + 1) ls (.int x.toInt32 :: st) w) : J Z cs pc ls (.long x :: st) w :=
  fun H locs la hH hS hl => lv_l2i C.1 C.2.1 hd rfl (k H locs la hH hS hl)
theorem j_i2b (C : CX Z G mi own) {x : Int32} (hd : decode mi.2.1 pc = .ok (.i2b, 1))  (k : J Z cs (pc + 1) ls (.int x.toInt8.toInt32 :: st) w) : J Z cs pc ls (.int x :: st) w :=
  fun H locs la hH hS hl => lv_i2b C.1 C.2.1 hd rfl (k H locs la hH hS hl)
theorem j_i2c (C : CX Z G mi own) {x : Int32} (hd : decode mi.2.1 pc = .ok (.i2c, 1))  (k : J Z cs (pc + 1) ls (.int (x.toUInt32 % 65536).toInt32 :: st) w) : J Z cs pc ls (.int x :: st) w :=
  fun H locs la hH hS hl => lv_i2c C.1 C.2.1 hd rfl (k H locs la hH hS hl)
theorem j_dup (C : CX Z G mi own) {va : Value} (hd : decode mi.2.1 pc = .ok (.dup, 1)) (hc : va.category = 1) (k : J Z cs (pc + 1) ls (va :: va :: st) w) : J Z cs pc ls (va :: st) w :=
  fun H locs la hH hS hl => lv_dup C.1 C.2.1 hd hc (k H locs la hH hS hl)
theorem j_pop (C : CX Z G mi own) {va : Value} (hd : decode mi.2.1 pc = .ok (.pop, 1)) (hc : va.category = 1) (k : J Z cs (pc + 1) ls (st) w) : J Z cs pc ls (va :: st) w :=
  fun H locs la hH hS hl => lv_pop C.1 C.2.1 hd hc (k H locs la hH hS hl)
theorem j_if_eq (C : CX Z G mi own) {x : Int32} {off : Int} (tgt : Nat) (hd : decode mi.2.1 pc = .ok (.ifCond .eq off, 3)) (ht : (pc : Int) + off = (tgt : Int)) (kt : x = 0 → J Z cs tgt ls st w) (kf : ¬ x = 0 → J Z cs (pc + 3) ls st w) : J Z cs pc ls (.int x :: st) w :=
  fun H locs la hH hS hl => lv_if_eq C.1 C.2.1 hd ht (fun h => kt h H locs la hH hS hl) (fun h => kf h H locs la hH hS hl)
theorem j_icmp_eq (C : CX Z G mi own) {x y : Int32} {off : Int} (tgt : Nat) (hd : decode mi.2.1 pc = .ok (.if_icmp .eq off, 3)) (ht : (pc : Int) + off = (tgt : Int)) (kt : x = y → J Z cs tgt ls st w) (kf : ¬ x = y → J Z cs (pc + 3) ls st w) : J Z cs pc ls (.int y :: .int x :: st) w :=
  fun H locs la hH hS hl => lv_icmp_eq C.1 C.2.1 hd ht (fun h => kt h H locs la hH hS hl) (fun h => kf h H locs la hH hS hl)
theorem j_if_ne (C : CX Z G mi own) {x : Int32} {off : Int} (tgt : Nat) (hd : decode mi.2.1 pc = .ok (.ifCond .ne off, 3)) (ht : (pc : Int) + off = (tgt : Int)) (kt : ¬ x = 0 → J Z cs tgt ls st w) (kf : x = 0 → J Z cs (pc + 3) ls st w) : J Z cs pc ls (.int x :: st) w :=
  fun H locs la hH hS hl => lv_if_ne C.1 C.2.1 hd ht (fun h => kt h H locs la hH hS hl) (fun h => kf h H locs la hH hS hl)
theorem j_icmp_ne (C : CX Z G mi own) {x y : Int32} {off : Int} (tgt : Nat) (hd : decode mi.2.1 pc = .ok (.if_icmp .ne off, 3)) (ht : (pc : Int) + off = (tgt : Int)) (kt : ¬ x = y → J Z cs tgt ls st w) (kf : x = y → J Z cs (pc + 3) ls st w) : J Z cs pc ls (.int y :: .int x :: st) w :=
  fun H locs la hH hS hl => lv_icmp_ne C.1 C.2.1 hd ht (fun h => kt h H locs la hH hS hl) (fun h => kf h H locs la hH hS hl)
theorem j_if_lt (C : CX Z G mi own) {x : Int32} {off : Int} (tgt : Nat) (hd : decode mi.2.1 pc = .ok (.ifCond .lt off, 3)) (ht : (pc : Int) + off = (tgt : Int)) (kt : x < 0 → J Z cs tgt ls st w) (kf : ¬ x < 0 → J Z cs (pc + 3) ls st w) : J Z cs pc ls (.int x :: st) w :=
  fun H locs la hH hS hl => lv_if_lt C.1 C.2.1 hd ht (fun h => kt h H locs la hH hS hl) (fun h => kf h H locs la hH hS hl)
theorem j_icmp_lt (C : CX Z G mi own) {x y : Int32} {off : Int} (tgt : Nat) (hd : decode mi.2.1 pc = .ok (.if_icmp .lt off, 3)) (ht : (pc : Int) + off = (tgt : Int)) (kt : x < y → J Z cs tgt ls st w) (kf : ¬ x < y → J Z cs (pc + 3) ls st w) : J Z cs pc ls (.int y :: .int x :: st) w :=
  fun H locs la hH hS hl => lv_icmp_lt C.1 C.2.1 hd ht (fun h => kt h H locs la hH hS hl) (fun h => kf h H locs la hH hS hl)
theorem j_if_ge (C : CX Z G mi own) {x : Int32} {off : Int} (tgt : Nat) (hd : decode mi.2.1 pc = .ok (.ifCond .ge off, 3)) (ht : (pc : Int) + off = (tgt : Int)) (kt : 0 ≤ x → J Z cs tgt ls st w) (kf : ¬ 0 ≤ x → J Z cs (pc + 3) ls st w) : J Z cs pc ls (.int x :: st) w :=
  fun H locs la hH hS hl => lv_if_ge C.1 C.2.1 hd ht (fun h => kt h H locs la hH hS hl) (fun h => kf h H locs la hH hS hl)
theorem j_icmp_ge (C : CX Z G mi own) {x y : Int32} {off : Int} (tgt : Nat) (hd : decode mi.2.1 pc = .ok (.if_icmp .ge off, 3)) (ht : (pc : Int) + off = (tgt : Int)) (kt : y ≤ x → J Z cs tgt ls st w) (kf : ¬ y ≤ x → J Z cs (pc + 3) ls st w) : J Z cs pc ls (.int y :: .int x :: st) w :=
  fun H locs la hH hS hl => lv_icmp_ge C.1 C.2.1 hd ht (fun h => kt h H locs la hH hS hl) (fun h => kf h H locs la hH hS hl)
theorem j_if_gt (C : CX Z G mi own) {x : Int32} {off : Int} (tgt : Nat) (hd : decode mi.2.1 pc = .ok (.ifCond .gt off, 3)) (ht : (pc : Int) + off = (tgt : Int)) (kt : 0 < x → J Z cs tgt ls st w) (kf : ¬ 0 < x → J Z cs (pc + 3) ls st w) : J Z cs pc ls (.int x :: st) w :=
  fun H locs la hH hS hl => lv_if_gt C.1 C.2.1 hd ht (fun h => kt h H locs la hH hS hl) (fun h => kf h H locs la hH hS hl)
theorem j_icmp_gt (C : CX Z G mi own) {x y : Int32} {off : Int} (tgt : Nat) (hd : decode mi.2.1 pc = .ok (.if_icmp .gt off, 3)) (ht : (pc : Int) + off = (tgt : Int)) (kt : y < x → J Z cs tgt ls st w) (kf : ¬ y < x → J Z cs (pc + 3) ls st w) : J Z cs pc ls (.int y :: .int x :: st) w :=
  fun H locs la hH hS hl => lv_icmp_gt C.1 C.2.1 hd ht (fun h => kt h H locs la hH hS hl) (fun h => kf h H locs la hH hS hl)
theorem j_if_le (C : CX Z G mi own) {x : Int32} {off : Int} (tgt : Nat) (hd : decode mi.2.1 pc = .ok (.ifCond .le off, 3)) (ht : (pc : Int) + off = (tgt : Int)) (kt : x ≤ 0 → J Z cs tgt ls st w) (kf : ¬ x ≤ 0 → J Z cs (pc + 3) ls st w) : J Z cs pc ls (.int x :: st) w :=
  fun H locs la hH hS hl => lv_if_le C.1 C.2.1 hd ht (fun h => kt h H locs la hH hS hl) (fun h => kf h H locs la hH hS hl)
theorem j_icmp_le (C : CX Z G mi own) {x y : Int32} {off : Int} (tgt : Nat) (hd : decode mi.2.1 pc = .ok (.if_icmp .le off, 3)) (ht : (pc : Int) + off = (tgt : Int)) (kt : x ≤ y → J Z cs tgt ls st w) (kf : ¬ x ≤ y → J Z cs (pc + 3) ls st w) : J Z cs pc ls (.int y :: .int x :: st) w :=
  fun H locs la hH hS hl => lv_icmp_le C.1 C.2.1 hd ht (fun h => kt h H locs la hH hS hl) (fun h => kf h H locs la hH hS hl)
theorem j_goto (C : CX Z G mi own) {off : Int} (tgt : Nat) (hd : decode mi.2.1 pc = .ok (.goto off, 3)) (ht : (pc : Int) + off = (tgt : Int)) (k : J Z cs tgt ls st w) : J Z cs pc ls st w :=
  fun H locs la hH hS hl => lv_goto C.1 C.2.1 hd ht (k H locs la hH hS hl)
theorem j_acmp_ne (C : CX Z G mi own) {rx ry : Option Nat} {off : Int} (tgt : Nat) (hd : decode mi.2.1 pc = .ok (.if_acmp .ne off, 3)) (ht : (pc : Int) + off = (tgt : Int)) (kt : ¬ rx.map (ra G) = ry.map (ra G) → J Z cs tgt ls st w) (kf : rx.map (ra G) = ry.map (ra G) → J Z cs (pc + 3) ls st w) : J Z cs pc ls (rv G ry :: rv G rx :: st) w :=
  fun H locs la hH hS hl => lv_acmp_ne C.1 C.2.1 hd ht (fun h => kt h H locs la hH hS hl) (fun h => kf h H locs la hH hS hl)
theorem j_tableOut (C : CX Z G mi own) {dflt lo hi : Int} {offs : Array Int} {len : Nat} {x : Int32} (tgt : Nat) (hd : decode mi.2.1 pc = .ok (.tableswitch dflt lo hi offs, len)) (h : x.toInt < lo ∨ hi < x.toInt) (ht : (pc : Int) + dflt = (tgt : Int)) (k : J Z cs tgt ls st w) : J Z cs pc ls (.int x :: st) w :=
  fun H locs la hH hS hl => lv_tableOut C.1 C.2.1 hd h ht (k H locs la hH hS hl)
theorem j_tableIn (C : CX Z G mi own) {dflt lo hi : Int} {offs : Array Int} {len : Nat} {x : Int32} {off : Int} (tgt : Nat) (hd : decode mi.2.1 pc = .ok (.tableswitch dflt lo hi offs, len)) (h1 : ¬ x.toInt < lo) (h2 : ¬ hi < x.toInt) (ho : offs[(x.toInt - lo).toNat]? = some off) (ht : (pc : Int) + off = (tgt : Int)) (k : J Z cs tgt ls st w) : J Z cs pc ls (.int x :: st) w :=
  fun H locs la hH hS hl => lv_tableIn C.1 C.2.1 hd h1 h2 ho ht (k H locs la hH hS hl)
end RULES

/-! cells -/
/-- i is k, and k is within n -/
def ix (i : Int32) (k n : Nat) : Prop := i.toInt = (k : Int) ∧ k < n
theorem ix_in {i : Int32} {k n : Nat} (h : ix i k n) : vp_in i n := vp_in_iff.mpr ⟨by rw [h.1]; omega, by rw [h.1]; have := h.2; omega⟩
theorem ix_cl {i : Int32} {k n : Nat} (h : ix i k n) : i.toNatClampNeg = k := by
  show i.toInt.toNat = k
  rw [h.1]
  rfl
def up2 {α : Type} (f : Nat → Nat → α) (a k : Nat) (v : α) : Nat → Nat → α := fun b j => if b = a then (if j = k then v else f b j) else f b j
theorem up2_same {α : Type} (f : Nat → Nat → α) (a k : Nat) (v : α) : up2 f a k v a k = v := by simp [up2]
theorem up2_ne {α : Type} (f : Nat → Nat → α) {a k : Nat} (v : α) {b : Nat} (h : b ≠ a) : up2 f a k v b = f b := by funext j; simp [up2, h]
theorem up2_nj {α : Type} (f : Nat → Nat → α) {a k : Nat} (v : α) {b j : Nat} (h : j ≠ k) : up2 f a k v b j = f b j := by by_cases hb : b = a <;> simp [up2, h]
theorem up2_row (f : Nat → Nat → Int32) (a k : Nat) (v : Int32) : up2 f a k v a = upd (f a) k v := by funext j; simp [up2, upd]
theorem up2_rowL (f : Nat → Nat → Int64) (a k : Nat) (v : Int64) : up2 f a k v a = vp_updL (f a) k v := by funext j; simp [up2, vp_updL]
/-- what the tables say of a class -/
def CL (ci n : Nat) : Prop := ∃ (c : String) (T : u_T) (ty : Nat → FieldType), cls[ci]? = some (c, T, n) ∧ (∀ w ∈ u_ws c T n, w ∈ tbl2) ∧ (∀ k, k < n → parseFieldDescriptor (T k).2.2.1 = some (ty k)) ∧ (∀ a, a < n → ∀ b, b < n → a ≠ b → (T a).2.1 ≠ (T b).2.1)
/-- a field, as an entry of the class own's pool has it: class ci of n fields, place k, type ty, final fin -/
def FL (own : String) (idx ci n k : Nat) (ty : FieldType) (fin : Bool) : Prop := ∃ (c : String) (T : u_T) (t0 : Nat → FieldType), cls[ci]? = some (c, T, n) ∧ (∀ w ∈ u_ws c T n, w ∈ tbl2) ∧ (∀ k, k < n → parseFieldDescriptor (T k).2.2.1 = some (t0 k)) ∧ (∀ a, a < n → ∀ b, b < n → a ≠ b → (T a).2.1 ≠ (T b).2.1) ∧ k < n ∧ Cond.fieldLink own idx (T k).1 (T k).2.1 (T k).2.2.1 ∈ tbl2 ∧ parseFieldDescriptor (T k).2.2.1 = some ty ∧ (T k).2.2.2 = fin ∧ (T k).1 = c
theorem ent_obj {G : GT} {sh : Nat → Nat × Nat} {I : Nat → Nat → Int32} {L : Nat → Nat → Int64} {R : Nat → Nat → Option Nat} {a ci n : Nat} (h : sh a = (ci, n)) (hc : ci < 20) : ent G sh I L R a = .inr (ci, (List.range n).map (fv G I L R a ci)) := by
  unfold ent
  rw [h]
  exact if_pos hc
theorem ent_int {G : GT} {sh : Nat → Nat × Nat} {I : Nat → Nat → Int32} {L : Nat → Nat → Int64} {R : Nat → Nat → Option Nat} {a kd n : Nat} (h : sh a = (20 + kd, n)) (hc : kd < 3) : ent G sh I L R a = .inl (gA G kd, n, .inl (I a)) := by
  unfold ent
  rw [h]
  show (if 20 + kd < 20 then _ else if 20 + kd < 23 then _ else _) = _
  rw [if_neg (by omega), if_pos (by omega), show 20 + kd - 20 = kd by omega]
theorem ent_long {G : GT} {sh : Nat → Nat × Nat} {I : Nat → Nat → Int32} {L : Nat → Nat → Int64} {R : Nat → Nat → Option Nat} {a n : Nat} (h : sh a = (23, n)) : ent G sh I L R a = .inl (gA G 3, n, .inr (.inl (L a))) := by
  unfold ent
  rw [h]
  show (if 23 < 20 then _ else if 23 < 23 then _ else if 23 = 23 then _ else _) = _
  rw [if_neg (by omega), if_neg (by omega), if_pos rfl]
theorem ent_ref {G : GT} {sh : Nat → Nat × Nat} {I : Nat → Nat → Int32} {L : Nat → Nat → Int64} {R : Nat → Nat → Option Nat} {a kd n : Nat} (h : sh a = (24 + kd, n)) : ent G sh I L R a = .inl (gA G (4 + kd), n, .inr (.inr (.inr (.inr (fun j => (R a j).map (ra G)))))) := by
  unfold ent
  rw [h]
  show (if 24 + kd < 20 then _ else if 24 + kd < 23 then _ else if 24 + kd = 23 then _ else _) = _
  rw [if_neg (by omega), if_neg (by omega), if_neg (by omega), show 24 + kd - 20 = 4 + kd by omega]
/-- an int written somewhere leaves the other cells -/
theorem ent_upI {G : GT} {sh : Nat → Nat × Nat} {I : Nat → Nat → Int32} {L : Nat → Nat → Int64} {R : Nat → Nat → Option Nat} {a k : Nat} {v : Int32} {b : Nat} (h : b ≠ a) : ent G sh (up2 I a k v) L R b = ent G sh I L R b := by
  unfold ent
  rw [up2_ne I v h]
  have : ∀ c, fv G (up2 I a k v) L R b c = fv G I L R b c := fun c => by funext j; unfold fv; rw [up2_ne I v h]
  rw [this]
theorem ent_upL {G : GT} {sh : Nat → Nat × Nat} {I : Nat → Nat → Int32} {L : Nat → Nat → Int64} {R : Nat → Nat → Option Nat} {a k : Nat} {v : Int64} {b : Nat} (h : b ≠ a) : ent G sh I (up2 L a k v) R b = ent G sh I L R b := by
  unfold ent
  rw [up2_ne L v h]
  have : ∀ c, fv G I (up2 L a k v) R b c = fv G I L R b c := fun c => by funext j; unfold fv; rw [up2_ne L v h]
  rw [this]
theorem ent_upR {G : GT} {sh : Nat → Nat × Nat} {I : Nat → Nat → Int32} {L : Nat → Nat → Int64} {R : Nat → Nat → Option Nat} {a k : Nat} {v : Option Nat} {b : Nat} (h : b ≠ a) : ent G sh I L (up2 R a k v) b = ent G sh I L R b := by
  unfold ent
  rw [up2_ne R v h]
  have : ∀ c, fv G I L (up2 R a k v) b c = fv G I L R b c := fun c => by funext j; unfold fv; rw [up2_ne R v h]
  rw [this]
theorem rg_set {f g : Nat → Value} {n k : Nat} {v : Value} (hk : g k = v) (ho : ∀ j, j ≠ k → g j = f j) : ((List.range n).map f).set k v = (List.range n).map g := by
  apply List.ext_getElem?
  intro i
  rw [List.getElem?_set]
  by_cases hi : i < n
  · rw [List.getElem?_map, List.getElem?_map, List.getElem?_range hi]
    by_cases h : k = i
    · subst h
      rw [if_pos rfl, if_pos (by rw [List.length_map, List.length_range]; exact hi)]
      simp [hk]
    · rw [if_neg h]
      simp [ho i (fun z => h z.symm)]
  · have h1 : ((List.range n).map g)[i]? = none := List.getElem?_eq_none (by rw [List.length_map, List.length_range]; omega)
    have h2 : ((List.range n).map f)[i]? = none := List.getElem?_eq_none (by rw [List.length_map, List.length_range]; omega)
    rw [h1, h2]
    by_cases h : k = i
    · rw [if_pos h, if_neg (by rw [List.length_map, List.length_range]; omega)]
    · rw [if_neg h]
theorem rg_at {f : Nat → Value} {n k : Nat} (h : k < n) : ((List.range n).map f)[k]? = some (f k) := by
  rw [List.getElem?_map, List.getElem?_range h]
  rfl
section CELLS
variable {Z : ZT} {G : GT} {mi : MI} {own : String} {cs : Nat × Nat} {pc : Nat} {ls : LV} {st : List Value} {w : Wd} {N : Nat} {sh : Nat → Nat × Nat} {I : Nat → Nat → Int32} {L : Nat → Nat → Int64} {R : Nat → Nat → Option Nat}
theorem j_getv (C : CX Z G mi own) {idx ci n k a : Nat} {ty : FieldType} {fin : Bool} (f : FL own idx ci n k ty fin) (hc : Nat.blt ci 20 = true) (hs : a < N ∧ sh a = (ci, n)) (hd : decode mi.2.1 pc = .ok (.getfield idx, 3)) (kk : J Z cs (pc + 3) ls (fv G I L R a ci k :: st) (N, sh, I, L, R)) : J Z cs pc ls (.ref (ra G a) :: st) (N, sh, I, L, R) := by
  intro H locs la hH hS hl
  obtain ⟨c, T, t0, f1, f2, f3, f4, f5, f6, f7, f8, f9⟩ := f
  have hG : zG Z = G := C.2.2.1
  rw [hG] at hH hS
  have hA : (wsOf G (N, sh, I, L, R))[a]? = some (gb G + a, ent G sh I L R a) := wsOf_at (w := (N, sh, I, L, R)) hs.1
  rw [ent_obj hs.2 (Nat.le_of_ble_eq_true hc)] at hA
  rw [ra_lt G (Nat.lt_trans hs.1 hH.2.2)]
  exact va_get C.1 C.2.1 C.2.2.2.2.2.2.1 f2 C.2.2.2.2.2.1 C.2.2.2.2.2.2.2.2.1.1 hH.1 a hA f1 k f5 (C.2.2.2.2.2.2.1 _ f6) (fun _ h => h) (rg_at f5) hd (kk H locs la (by rw [hG]; exact hH) (by rw [hG]; exact hS) hl)
theorem j_geti (C : CX Z G mi own) {idx ci n k a : Nat} {ty : FieldType} {fin : Bool} (f : FL own idx ci n k ty fin) (hs : a < N ∧ sh a = (ci, n)) (hc : Nat.blt ci 20 = true) (hk : fk ci k = 0) (hd : decode mi.2.1 pc = .ok (.getfield idx, 3)) (kk : J Z cs (pc + 3) ls (.int (I a k) :: st) (N, sh, I, L, R)) : J Z cs pc ls (.ref (ra G a) :: st) (N, sh, I, L, R) :=
  j_getv C f hc hs hd (by unfold fv; rw [hk]; exact kk)
theorem j_getl (C : CX Z G mi own) {idx ci n k a : Nat} {ty : FieldType} {fin : Bool} (f : FL own idx ci n k ty fin) (hs : a < N ∧ sh a = (ci, n)) (hc : Nat.blt ci 20 = true) (hk : fk ci k = 1) (hd : decode mi.2.1 pc = .ok (.getfield idx, 3)) (kk : J Z cs (pc + 3) ls (.long (L a k) :: st) (N, sh, I, L, R)) : J Z cs pc ls (.ref (ra G a) :: st) (N, sh, I, L, R) :=
  j_getv C f hc hs hd (by unfold fv; rw [hk]; exact kk)
theorem j_getr (C : CX Z G mi own) {idx ci n k a : Nat} {ty : FieldType} {fin : Bool} (f : FL own idx ci n k ty fin) (hs : a < N ∧ sh a = (ci, n)) (hc : Nat.blt ci 20 = true) (hk : fk ci k = 2) {r : Nat} (hr : R a k = some r) (hd : decode mi.2.1 pc = .ok (.getfield idx, 3)) (kk : J Z cs (pc + 3) ls (.ref (ra G r) :: st) (N, sh, I, L, R)) : J Z cs pc ls (.ref (ra G a) :: st) (N, sh, I, L, R) :=
  j_getv C f hc hs hd (by unfold fv; rw [hk]; show J Z cs (pc + 3) ls (rv G (R a k) :: st) _; rw [hr]; exact kk)
/-- any field written: the new world is given by its cells -/
theorem j_putv (C : CX Z G mi own) {idx ci n k a : Nat} {ty : FieldType} (f : FL own idx ci n k ty false) (hs : a < N ∧ sh a = (ci, n)) (hc : Nat.blt ci 20 = true) {v : Value} (hn : narrow ty v = v) (hfit : fits ty v = true) (hd : decode mi.2.1 pc = .ok (.putfield idx, 3)) {I' : Nat → Nat → Int32} {L' : Nat → Nat → Int64} {R' : Nat → Nat → Option Nat} (hv : fv G I' L' R' a ci k = v) (ho : ∀ j, j ≠ k → fv G I' L' R' a ci j = fv G I L R a ci j) (hb : ∀ b, b ≠ a → ent G sh I' L' R' b = ent G sh I L R b)
    (kk : J Z cs (pc + 3) ls st (N, sh, I', L', R')) : J Z cs pc ls (v :: .ref (ra G a) :: st) (N, sh, I, L, R) := by
  intro H locs la hH hS hl
  obtain ⟨c, T, t0, f1, f2, f3, f4, f5, f6, f7, f8, f9⟩ := f
  have hG : zG Z = G := C.2.2.1
  rw [hG] at hH hS
  have he : (wsOf G (N, sh, I, L, R))[a]? = some (gb G + a, ent G sh I L R a) := wsOf_at (w := (N, sh, I, L, R)) hs.1
  rw [ent_obj hs.2 (Nat.le_of_ble_eq_true hc)] at he
  rw [ra_lt G (Nat.lt_trans hs.1 hH.2.2)]
  have hts := C.2.2.2.2.2.2.1
  have hK := C.2.2.2.2.2.2.2.2.1.1
  have hown := C.2.2.2.2.2.1
  have hP := hH.1
  have hD := wsOf_D G (N, sh, I, L, R)
  have hap := va_apart (own := own) hts f2 t0 f3 f4 hK f1
  obtain ⟨r, h1, cell, q1, q2, q3, q4⟩ := hP a _ he
  have hr : r = (c, T, n) := Option.some.inj (h1.symm.trans f1)
  subst hr
  obtain ⟨hSl, hfc, kC, hkC, hkind⟩ := hK.1 ci _ f1
  obtain ⟨cf, kf, fi, fd, hi, hsl⟩ := hSl k f5
  have hlay := hts _ (f2 _ (u_in_lay f5))
  unfold u_lay at hlay
  rw [if_neg (by rw [f8]; decide)] at hlay
  have hst := (u_facts hfc hkC (u_lays hts f2 f5) hi).1
  have h6 := u_store hfc hkC hkind hlay hi f7 hn hfit
  refine W.putK C.1 C.2.1 (f := fd) ⟨hown, hts _ f6, ⟨_, _, _, hi⟩, hst⟩ (by rw [q2]; exact h6) q1 q3 (by rw [hsl]; exact k2_hasslot (q4 k f5)) rfl rfl hd fun H' e1 e2 e3 => ?_
  rw [hsl] at e1 ⊢
  have hl0 : k < ((List.range n).map (fv G I L R a ci)).length := by rw [List.length_map, List.length_range]; exact f5
  have hP1 : va_P (gD G) cls ((wsOf G (N, sh, I, L, R)).set a (gb G + a, .inr (ci, ((List.range n).map (fv G I L R a ci)).set k v))) H' := hP.set hD he ⟨_, f1, t_OB.to (V := updV (vp_V ((List.range n).map (fv G I L R a ci))) k v) ⟨_, e1, q2, q3, t_set q4 hap f5 v⟩ (fun j _ => vp_updV_set hl0 v j)⟩ e3
  rw [rg_set (f := fv G I L R a ci) (g := fv G I' L' R' a ci) hv ho] at hP1
  exact kk H' _ la (by rw [hG]; exact HW_set (w' := (N, sh, I', L', R')) hH rfl hs.1 (ent_obj hs.2 (Nat.le_of_ble_eq_true hc)) hb hP1 e2) (by rw [hG]; exact hS.put e2 e3 (hD.2 a _ he)) hl
theorem fv_upI {G : GT} {I : Nat → Nat → Int32} {L : Nat → Nat → Int64} {R : Nat → Nat → Option Nat} {a ci k : Nat} {x : Int32} (j : Nat) (h : j ≠ k) : fv G (up2 I a k x) L R a ci j = fv G I L R a ci j := by unfold fv; rw [up2_nj I x h]
theorem fv_upL {G : GT} {I : Nat → Nat → Int32} {L : Nat → Nat → Int64} {R : Nat → Nat → Option Nat} {a ci k : Nat} {x : Int64} (j : Nat) (h : j ≠ k) : fv G I (up2 L a k x) R a ci j = fv G I L R a ci j := by unfold fv; rw [up2_nj L x h]
theorem fv_upR {G : GT} {I : Nat → Nat → Int32} {L : Nat → Nat → Int64} {R : Nat → Nat → Option Nat} {a ci k : Nat} {x : Option Nat} (j : Nat) (h : j ≠ k) : fv G I L (up2 R a k x) a ci j = fv G I L R a ci j := by unfold fv; rw [up2_nj R x h]
theorem j_puti (C : CX Z G mi own) {idx ci n k a : Nat} (f : FL own idx ci n k .int false) (hs : a < N ∧ sh a = (ci, n)) (hc : Nat.blt ci 20 = true) (hk : fk ci k = 0) (hd : decode mi.2.1 pc = .ok (.putfield idx, 3)) {x : Int32} (kk : J Z cs (pc + 3) ls st (N, sh, up2 I a k x, L, R)) : J Z cs pc ls (.int x :: .ref (ra G a) :: st) (N, sh, I, L, R) :=
  j_putv C f hs hc rfl rfl hd (by unfold fv; rw [hk]; show Value.int (up2 I a k x a k) = _; rw [up2_same]) fv_upI (fun b hb => ent_upI hb) kk
/-- 0 or 1 -/
def isB (x : Int32) : Prop := x = 0 ∨ x = 1
theorem isB_n {x : Int32} (h : isB x) : narrow .boolean (.int x) = .int x := by rcases h with rfl | rfl <;> rfl
theorem isB_f {x : Int32} (h : isB x) : fits .boolean (.int x) = true := by rcases h with rfl | rfl <;> rfl
theorem j_putz (C : CX Z G mi own) {idx ci n k a : Nat} (f : FL own idx ci n k .boolean false) (hs : a < N ∧ sh a = (ci, n)) (hc : Nat.blt ci 20 = true) (hk : fk ci k = 0) (hd : decode mi.2.1 pc = .ok (.putfield idx, 3)) {x : Int32} (hx : isB x) (kk : J Z cs (pc + 3) ls st (N, sh, up2 I a k x, L, R)) : J Z cs pc ls (.int x :: .ref (ra G a) :: st) (N, sh, I, L, R) :=
  j_putv C f hs hc (isB_n hx) (isB_f hx) hd (by unfold fv; rw [hk]; show Value.int (up2 I a k x a k) = _; rw [up2_same]) fv_upI (fun b hb => ent_upI hb) kk
theorem j_putl (C : CX Z G mi own) {idx ci n k a : Nat} (f : FL own idx ci n k .long false) (hs : a < N ∧ sh a = (ci, n)) (hc : Nat.blt ci 20 = true) (hk : fk ci k = 1) (hd : decode mi.2.1 pc = .ok (.putfield idx, 3)) {x : Int64} (kk : J Z cs (pc + 3) ls st (N, sh, I, up2 L a k x, R)) : J Z cs pc ls (.long x :: .ref (ra G a) :: st) (N, sh, I, L, R) :=
  j_putv C f hs hc rfl rfl hd (by unfold fv; rw [hk]; show Value.long (up2 L a k x a k) = _; rw [up2_same]) fv_upL (fun b hb => ent_upL hb) kk
theorem j_putr (C : CX Z G mi own) {idx ci n k a : Nat} {cn : String} (f : FL own idx ci n k (.object cn) false) (hs : a < N ∧ sh a = (ci, n)) (hc : Nat.blt ci 20 = true) (hk : fk ci k = 2) (hd : decode mi.2.1 pc = .ok (.putfield idx, 3)) {r : Nat} (kk : J Z cs (pc + 3) ls st (N, sh, I, L, up2 R a k (some r))) : J Z cs pc ls (.ref (ra G r) :: .ref (ra G a) :: st) (N, sh, I, L, R) :=
  j_putv C f hs hc rfl rfl hd (by unfold fv; rw [hk]; show rv G (up2 R a k (some r) a k) = _; rw [up2_same]; rfl) fv_upR (fun b hb => ent_upR hb) kk
end CELLS
end
section
section ARR
variable {Z : ZT} {G : GT} {mi : MI} {own : String} {cs : Nat × Nat} {pc : Nat} {ls : LV} {st : List Value} {w : Wd} {N : Nat} {sh : Nat → Nat × Nat} {I : Nat → Nat → Int32} {L : Nat → Nat → Int64} {R : Nat → Nat → Option Nat}
theorem wsA {a : Nat} (h : a < N) : (wsOf G (N, sh, I, L, R))[a]? = some (gb G + a, ent G sh I L R a) := wsOf_at (w := (N, sh, I, L, R)) h
theorem wsI {a kd n : Nat} (hs : a < N ∧ sh a = (20 + kd, n)) (hk : kd < 3) : (wsOf G (N, sh, I, L, R))[a]? = some (gb G + a, .inl (gA G kd, n, .inl (I a))) := by rw [wsA hs.1, ent_int hs.2 hk]
theorem wsL {a n : Nat} (hs : a < N ∧ sh a = (23, n)) : (wsOf G (N, sh, I, L, R))[a]? = some (gb G + a, .inl (gA G 3, n, .inr (.inl (L a)))) := by rw [wsA hs.1, ent_long hs.2]
theorem wsR {a kd n : Nat} (hs : a < N ∧ sh a = (24 + kd, n)) : (wsOf G (N, sh, I, L, R))[a]? = some (gb G + a, .inl (gA G (4 + kd), n, .inr (.inr (.inr (.inr (fun j => (R a j).map (ra G))))))) := by rw [wsA hs.1, ent_ref hs.2]
theorem j_iald (C : CX Z G mi own) {a n k : Nat} {i : Int32} (hs : a < N ∧ sh a = (20, n)) (hi : ix i k n) (hd : decode mi.2.1 pc = .ok (.iaload, 1)) (kk : J Z cs (pc + 1) ls (.int (I a k) :: st) (N, sh, I, L, R)) : J Z cs pc ls (.int i :: .ref (ra G a) :: st) (N, sh, I, L, R) := by
  intro H locs la hH hS hl
  have hG : zG Z = G := C.2.2.1
  have kk := kk H locs la hH hS hl
  rw [hG] at hH
  rw [ra_lt G (Nat.lt_trans hs.1 hH.2.2)]
  exact va_iald C.1 C.2.1 C.2.2.2.2.2.2.2.2.1.1 hH.1 a 0 (wsI (kd := 0) hs (by omega)) rfl (ix_in hi) hd (by rw [ix_cl hi]; exact kk)
theorem j_bald (C : CX Z G mi own) {a n k : Nat} {i : Int32} (hs : a < N ∧ sh a = (21, n)) (hi : ix i k n) (hd : decode mi.2.1 pc = .ok (.baload, 1)) (kk : J Z cs (pc + 1) ls (.int (I a k) :: st) (N, sh, I, L, R)) : J Z cs pc ls (.int i :: .ref (ra G a) :: st) (N, sh, I, L, R) := by
  intro H locs la hH hS hl
  have hG : zG Z = G := C.2.2.1
  have kk := kk H locs la hH hS hl
  rw [hG] at hH
  rw [ra_lt G (Nat.lt_trans hs.1 hH.2.2)]
  exact va_bald C.1 C.2.1 C.2.2.2.2.2.2.2.2.1.1 hH.1 a 1 (wsI (kd := 1) hs (by omega)) rfl (ix_in hi) hd (by rw [ix_cl hi]; exact kk)
theorem j_zald (C : CX Z G mi own) {a n k : Nat} {i : Int32} (hs : a < N ∧ sh a = (22, n)) (hi : ix i k n) (hd : decode mi.2.1 pc = .ok (.baload, 1)) (kk : J Z cs (pc + 1) ls (.int (I a k) :: st) (N, sh, I, L, R)) : J Z cs pc ls (.int i :: .ref (ra G a) :: st) (N, sh, I, L, R) := by
  intro H locs la hH hS hl
  have hG : zG Z = G := C.2.2.1
  have kk := kk H locs la hH hS hl
  rw [hG] at hH
  rw [ra_lt G (Nat.lt_trans hs.1 hH.2.2)]
  exact va_zald C.1 C.2.1 C.2.2.2.2.2.2.2.2.1.1 hH.1 a 2 (wsI (kd := 2) hs (by omega)) rfl (ix_in hi) hd (by rw [ix_cl hi]; exact kk)
theorem j_lald (C : CX Z G mi own) {a n k : Nat} {i : Int32} (hs : a < N ∧ sh a = (23, n)) (hi : ix i k n) (hd : decode mi.2.1 pc = .ok (.laload, 1)) (kk : J Z cs (pc + 1) ls (.long (L a k) :: st) (N, sh, I, L, R)) : J Z cs pc ls (.int i :: .ref (ra G a) :: st) (N, sh, I, L, R) := by
  intro H locs la hH hS hl
  have hG : zG Z = G := C.2.2.1
  have kk := kk H locs la hH hS hl
  rw [hG] at hH
  rw [ra_lt G (Nat.lt_trans hs.1 hH.2.2)]
  exact va_lald C.1 C.2.1 C.2.2.2.2.2.2.2.2.1.1 hH.1 a 3 (wsL hs) rfl (ix_in hi) hd (by rw [ix_cl hi]; exact kk)
theorem tys_ref (G : GT) {kd : Nat} (h : kd < 4) : ∃ ty : FieldType, (tysL G)[4 + kd]? = some (gA G (4 + kd), ty) ∧ ty.isReference = true := by
  rcases (show kd = 0 ∨ kd = 1 ∨ kd = 2 ∨ kd = 3 by omega) with rfl | rfl | rfl | rfl
  · exact ⟨_, rfl, rfl⟩
  · exact ⟨_, rfl, rfl⟩
  · exact ⟨_, rfl, rfl⟩
  · exact ⟨_, rfl, rfl⟩
/-- a reference of a row: the row may hold null -/
theorem j_aaldv (C : CX Z G mi own) {a n k kd : Nat} {i : Int32} (hs : a < N ∧ sh a = (24 + kd, n)) (hkd : Nat.ble (kd + 1) 4 = true) (hi : ix i k n) (hd : decode mi.2.1 pc = .ok (.aaload, 1)) (kk : J Z cs (pc + 1) ls (rv G (R a k) :: st) (N, sh, I, L, R)) : J Z cs pc ls (.int i :: .ref (ra G a) :: st) (N, sh, I, L, R) := by
  intro H locs la hH hS hl
  have hG : zG Z = G := C.2.2.1
  have kk := kk H locs la hH hS hl
  rw [hG] at hH
  rw [ra_lt G (Nat.lt_trans hs.1 hH.2.2)]
  obtain ⟨ty, ht, hty⟩ := tys_ref G (Nat.le_of_ble_eq_true hkd)
  have hlt : i.toNatClampNeg < n := by rw [ix_cl hi]; exact hi.2
  exact W.aald (v := rv G (R a k)) (ty := ty) C.1 C.2.1 (hH.1 a _ (wsR hs)) ((C.2.2.2.2.2.2.2.2.1.1.2 (4 + kd) _ ht).1 n (fun j => va_rf ((R a j).map (ra G)))) hty (fun q => by cases q) (by show ¬ (i < 0 ∨ (arrV _ _ _).slots.size ≤ _); rw [arrV_size]; exact ix_in hi) (by show (arrV _ _ _).slots[_]? = _; rw [arrV_read _ _ hlt, ix_cl hi]; rfl) rfl rfl hd kk
theorem j_aald (C : CX Z G mi own) {a n k kd r : Nat} {i : Int32} (hs : a < N ∧ sh a = (24 + kd, n)) (hkd : Nat.ble (kd + 1) 4 = true) (hi : ix i k n) (hr : R a k = some r) (hd : decode mi.2.1 pc = .ok (.aaload, 1)) (kk : J Z cs (pc + 1) ls (.ref (ra G r) :: st) (N, sh, I, L, R)) : J Z cs pc ls (.int i :: .ref (ra G a) :: st) (N, sh, I, L, R) :=
  j_aaldv C hs hkd hi hd (by rw [hr]; exact kk)
theorem j_iast (C : CX Z G mi own) {a n k : Nat} {i x : Int32} (hs : a < N ∧ sh a = (20, n)) (hi : ix i k n) (hd : decode mi.2.1 pc = .ok (.iastore, 1)) (kk : J Z cs (pc + 1) ls st (N, sh, up2 I a k x, L, R)) : J Z cs pc ls (.int x :: .int i :: .ref (ra G a) :: st) (N, sh, I, L, R) := by
  intro H locs la hH hS hl
  have hG : zG Z = G := C.2.2.1
  rw [hG] at hH hS
  rw [ra_lt G (Nat.lt_trans hs.1 hH.2.2)]
  have hD := wsOf_D G (N, sh, I, L, R)
  have ha := wsI (G := G) (I := I) (L := L) (R := R) (kd := 0) hs (by omega)
  have hlt : i.toNatClampNeg < n := by rw [ix_cl hi]; exact hi.2
  refine W.iast C.1 C.2.1 (hH.1 a _ ha) ((C.2.2.2.2.2.2.2.2.1.1.2 0 _ rfl).1 n (fun j => .int (I a j))) (fun q => by cases q) (by show ¬ (i < 0 ∨ (arrV _ _ _).slots.size ≤ _); rw [arrV_size]; exact ix_in hi) rfl rfl hd fun H1 e z oq => ?_
  have e2 : H1[gb G + a]? = some (vp_cell (gA G 0) (n, .inl (upd (I a) k x))) := by
    rw [e, vp_cell_i, vp_cell_i, arrV_store, ix_cl hi]
    congr 2
    funext q
    by_cases hq : q = k
    · subst hq
      simp [updV, upd]
    · simp [updV, upd, hq]
  exact kk H1 _ la (by rw [hG]; exact HW_set (w' := (N, sh, up2 I a k x, L, R)) (e := .inl (gA G 0, n, .inl (upd (I a) k x))) hH rfl hs.1 (by rw [← up2_row]; exact ent_int (kd := 0) hs.2 (by omega)) (fun b hb => ent_upI hb) (hH.1.set hD ha e2 oq) z) (by rw [hG]; exact hS.put z oq (hD.2 a _ ha)) hl
theorem j_bast (C : CX Z G mi own) {a n k : Nat} {i x : Int32} (hs : a < N ∧ sh a = (21, n)) (hi : ix i k n) (hd : decode mi.2.1 pc = .ok (.bastore, 1)) (kk : J Z cs (pc + 1) ls st (N, sh, up2 I a k x.toInt8.toInt32, L, R)) : J Z cs pc ls (.int x :: .int i :: .ref (ra G a) :: st) (N, sh, I, L, R) := by
  intro H locs la hH hS hl
  have hG : zG Z = G := C.2.2.1
  rw [hG] at hH hS
  rw [ra_lt G (Nat.lt_trans hs.1 hH.2.2)]
  have hD := wsOf_D G (N, sh, I, L, R)
  have ha := wsI (G := G) (I := I) (L := L) (R := R) (kd := 1) hs (by omega)
  have hlt : i.toNatClampNeg < n := by rw [ix_cl hi]; exact hi.2
  refine W.bast C.1 C.2.1 (hH.1 a _ ha) ((C.2.2.2.2.2.2.2.2.1.1.2 1 _ rfl).1 n (fun j => .int (I a j))) (fun q => by cases q) (by show ¬ (i < 0 ∨ (arrV _ _ _).slots.size ≤ _); rw [arrV_size]; exact ix_in hi) rfl rfl hd fun H1 e z oq => ?_
  have e2 : H1[gb G + a]? = some (vp_cell (gA G 1) (n, .inl (upd (I a) k x.toInt8.toInt32))) := by
    rw [e, vp_cell_i, vp_cell_i, arrV_store, ix_cl hi]
    congr 2
    funext q
    by_cases hq : q = k
    · subst hq
      simp [updV, upd]
      try rfl
    · simp [updV, upd, hq]
  exact kk H1 _ la (by rw [hG]; exact HW_set (w' := (N, sh, up2 I a k x.toInt8.toInt32, L, R)) (e := .inl (gA G 1, n, .inl (upd (I a) k x.toInt8.toInt32))) hH rfl hs.1 (by rw [← up2_row]; exact ent_int (kd := 1) hs.2 (by omega)) (fun b hb => ent_upI hb) (hH.1.set hD ha e2 oq) z) (by rw [hG]; exact hS.put z oq (hD.2 a _ ha)) hl
theorem j_zast (C : CX Z G mi own) {a n k : Nat} {i x : Int32} (hs : a < N ∧ sh a = (22, n)) (hi : ix i k n) (hx : isB x) (hd : decode mi.2.1 pc = .ok (.bastore, 1)) (kk : J Z cs (pc + 1) ls st (N, sh, up2 I a k x, L, R)) : J Z cs pc ls (.int x :: .int i :: .ref (ra G a) :: st) (N, sh, I, L, R) := by
  intro H locs la hH hS hl
  have hG : zG Z = G := C.2.2.1
  rw [hG] at hH hS
  rw [ra_lt G (Nat.lt_trans hs.1 hH.2.2)]
  have hD := wsOf_D G (N, sh, I, L, R)
  have ha := wsI (G := G) (I := I) (L := L) (R := R) (kd := 2) hs (by omega)
  have hlt : i.toNatClampNeg < n := by rw [ix_cl hi]; exact hi.2
  refine W.zast C.1 C.2.1 (hH.1 a _ ha) ((C.2.2.2.2.2.2.2.2.1.1.2 2 _ rfl).1 n (fun j => .int (I a j))) (fun q => by cases q) (by show ¬ (i < 0 ∨ (arrV _ _ _).slots.size ≤ _); rw [arrV_size]; exact ix_in hi) rfl rfl hd fun H1 e z oq => ?_
  have e2 : H1[gb G + a]? = some (vp_cell (gA G 2) (n, .inl (upd (I a) k x))) := by
    rw [e, vp_cell_i, vp_cell_i, arrV_store, ix_cl hi]
    congr 2
    funext q
    by_cases hq : q = k
    · subst hq
      have hn := isB_n hx
      simp [updV, upd, hn]
    · simp [updV, upd, hq]
  exact kk H1 _ la (by rw [hG]; exact HW_set (w' := (N, sh, up2 I a k x, L, R)) (e := .inl (gA G 2, n, .inl (upd (I a) k x))) hH rfl hs.1 (by rw [← up2_row]; exact ent_int (kd := 2) hs.2 (by omega)) (fun b hb => ent_upI hb) (hH.1.set hD ha e2 oq) z) (by rw [hG]; exact hS.put z oq (hD.2 a _ ha)) hl
theorem j_last (C : CX Z G mi own) {a n k : Nat} {i : Int32} {x : Int64} (hs : a < N ∧ sh a = (23, n)) (hi : ix i k n) (hd : decode mi.2.1 pc = .ok (.lastore, 1)) (kk : J Z cs (pc + 1) ls st (N, sh, I, up2 L a k x, R)) : J Z cs pc ls (.long x :: .int i :: .ref (ra G a) :: st) (N, sh, I, L, R) := by
  intro H locs la hH hS hl
  have hG : zG Z = G := C.2.2.1
  rw [hG] at hH hS
  rw [ra_lt G (Nat.lt_trans hs.1 hH.2.2)]
  have hD := wsOf_D G (N, sh, I, L, R)
  have ha := wsL (G := G) (I := I) (L := L) (R := R) hs
  have hlt : i.toNatClampNeg < n := by rw [ix_cl hi]; exact hi.2
  refine W.last C.1 C.2.1 (hH.1 a _ ha) ((C.2.2.2.2.2.2.2.2.1.1.2 3 _ rfl).1 n (fun j => .long (L a j))) (fun q => by cases q) (by show ¬ (i < 0 ∨ (arrV _ _ _).slots.size ≤ _); rw [arrV_size]; exact ix_in hi) rfl rfl hd fun H1 e z oq => ?_
  have e2 : H1[gb G + a]? = some (vp_cell (gA G 3) (n, .inr (.inl (vp_updL (L a) k x)))) := by
    rw [e, vp_cell_l, vp_cell_l, arrV_store, ix_cl hi]
    congr 2
    funext q
    by_cases hq : q = k
    · subst hq
      simp [updV, vp_updL]
    · simp [updV, vp_updL, hq]
  exact kk H1 _ la (by rw [hG]; exact HW_set (w' := (N, sh, I, up2 L a k x, R)) (e := .inl (gA G 3, n, .inr (.inl (vp_updL (L a) k x)))) hH rfl hs.1 (by rw [← up2_rowL]; exact ent_long hs.2) (fun b hb => ent_upL hb) (hH.1.set hD ha e2 oq) z) (by rw [hG]; exact hS.put z oq (hD.2 a _ ha)) hl
theorem j_alen (C : CX Z G mi own) {a kd n : Nat} (hs : a < N ∧ sh a = (20 + kd, n)) (hkd : Nat.ble (kd + 1) 8 = true) (hd : decode mi.2.1 pc = .ok (.arraylength, 1)) (kk : J Z cs (pc + 1) ls (.int (nI n) :: st) (N, sh, I, L, R)) : J Z cs pc ls (.ref (ra G a) :: st) (N, sh, I, L, R) := by
  intro H locs la hH hS hl
  have hG : zG Z = G := C.2.2.1
  have kk := kk H locs la hH hS hl
  rw [hG] at hH
  rw [ra_lt G (Nat.lt_trans hs.1 hH.2.2)]
  have hK := C.2.2.2.2.2.2.2.2.1.1
  rcases (show kd < 3 ∨ kd = 3 ∨ 4 ≤ kd by omega) with h | h | h
  · rcases (show kd = 0 ∨ kd = 1 ∨ kd = 2 by omega) with rfl | rfl | rfl
    · exact va_alen C.1 C.2.1 hK hH.1 a 0 (wsI hs h) rfl rfl hd kk
    · exact va_alen C.1 C.2.1 hK hH.1 a 1 (wsI hs h) rfl rfl hd kk
    · exact va_alen C.1 C.2.1 hK hH.1 a 2 (wsI hs h) rfl rfl hd kk
  · subst h
    exact va_alen C.1 C.2.1 hK hH.1 a 3 (wsL hs) rfl rfl hd kk
  · obtain ⟨e, rfl⟩ : ∃ e, kd = 4 + e := ⟨kd - 4, by omega⟩
    have h8 := Nat.le_of_ble_eq_true hkd
    obtain ⟨ty, ht, -⟩ := tys_ref G (show e < 4 by omega)
    exact va_alen C.1 C.2.1 hK hH.1 a (4 + e) (wsR (kd := e) ⟨hs.1, by rw [hs.2]; congr 1; omega⟩) ht rfl hd kk
/-- a reference to a sign goes into a row of signs -/
theorem j_aastS (C : CX Z G mi own) {a n k r : Nat} {i : Int32} (hs : a < N ∧ sh a = (24, n)) (hi : ix i k n) (hr : r < 42) (hd : decode mi.2.1 pc = .ok (.aastore, 1)) (kk : J Z cs (pc + 1) ls st (N, sh, I, L, up2 R a k (some (1000 + r)))) : J Z cs pc ls (.ref (ra G (1000 + r)) :: .int i :: .ref (ra G a) :: st) (N, sh, I, L, R) := by
  intro H locs la hH hS hl
  have hG : zG Z = G := C.2.2.1
  rw [hG] at hH hS
  rw [ra_lt G (Nat.lt_trans hs.1 hH.2.2)]
  have hra : ra G (1000 + r) = gE G r := by
    unfold ra
    rw [if_neg (by omega), if_pos (by omega), show 1000 + r - 1000 = r by omega]
  have hD := wsOf_D G (N, sh, I, L, R)
  have ha := wsR (G := G) (I := I) (L := L) (R := R) (kd := 0) hs
  have hlt : i.toNatClampNeg < n := by rw [ix_cl hi]; exact hi.2
  have h0 : ¬ i < 0 := fun q => ix_in hi (Or.inl q)
  have hK := C.2.2.2.2.2.2.2.2.1.1
  obtain ⟨kA, comp, k1, k2, k3, -⟩ := (hK.2 4 (gA G 4, .object "TenTrials$Sign") rfl).2
  obtain ⟨kE, hkE, -⟩ := Vm.findClass_spec k3
  obtain ⟨cell, c1, c2, c3, -⟩ := (C.2.2.2.2.2.2.2.2.1.2.2.1 r hr).2.1.kept hS.2.1
  cases k3.symm.trans c3
  rw [hra]
  refine W.aast C.1 C.2.1 (hH.1 a _ ha) (fun q h => by cases h) (fun h => by cases h) k1 k2 rfl hkE ⟨h0, by show _ < (arrV _ _ _).slots.size; rw [arrV_size]; exact hlt⟩ c1 (fun q h => by rw [h] at c2; cases c2) hkE (va_asg _ _) rfl rfl hd fun H1 e z oq => ?_
  have e2 : H1[gb G + a]? = some (vp_cell (gA G 4) (n, .inr (.inr (.inr (.inr (fun j => (up2 R a k (some (1000 + r)) a j).map (ra G))))))) := by
    rw [e, vp_cell_q, vp_cell_q, arrV_store, ix_cl hi]
    congr 2
    funext q
    by_cases hq : q = k
    · subst hq
      simp [updV, up2, va_rf, hra]
    · simp [updV, up2, hq]
  exact kk H1 _ la (by rw [hG]; exact HW_set (w' := (N, sh, I, L, up2 R a k (some (1000 + r)))) (e := .inl (gA G 4, n, .inr (.inr (.inr (.inr (fun j => (up2 R a k (some (1000 + r)) a j).map (ra G))))))) hH rfl hs.1 (ent_ref (kd := 0) hs.2) (fun b hb => ent_upR hb) (hH.1.set hD ha e2 oq) z) (by rw [hG]; exact hS.put z oq (hD.2 a _ ha)) hl
/-- an object of the world goes into a row of its class -/
theorem j_aastO (C : CX Z G mi own) {a n k r kd ci nf : Nat} {i : Int32} {c : String} {T : u_T} (hs : a < N ∧ sh a = (24 + kd, n)) (hi : ix i k n) (ho : r < N ∧ sh r = (ci, nf)) (hc : Nat.blt ci 20 = true) (hcl : cls[ci]? = some (c, T, nf)) (hty : (tysL G)[4 + kd]? = some (gA G (4 + kd), .object c)) (hd : decode mi.2.1 pc = .ok (.aastore, 1)) (kk : J Z cs (pc + 1) ls st (N, sh, I, L, up2 R a k (some r))) : J Z cs pc ls (.ref (ra G r) :: .int i :: .ref (ra G a) :: st) (N, sh, I, L, R) := by
  intro H locs la hH hS hl
  have hG : zG Z = G := C.2.2.1
  rw [hG] at hH hS
  have hN : N < 1000 := hH.2.2
  have hra : ra G r = gb G + r := ra_lt G (Nat.lt_trans ho.1 hN)
  rw [ra_lt G (Nat.lt_trans hs.1 hN), hra]
  have hD := wsOf_D G (N, sh, I, L, R)
  have ha := wsR (G := G) (I := I) (L := L) (R := R) hs
  have hv : (wsOf G (N, sh, I, L, R))[r]? = some (gb G + r, ent G sh I L R r) := wsA ho.1
  rw [ent_obj ho.2 (Nat.le_of_ble_eq_true hc)] at hv
  have hlt : i.toNatClampNeg < n := by rw [ix_cl hi]; exact hi.2
  have h0 : ¬ i < 0 := fun q => ix_in hi (Or.inl q)
  have hK := C.2.2.2.2.2.2.2.2.1.1
  obtain ⟨r', hr', cellV, g1, g2, g3, -⟩ := hH.1 r _ hv
  have hcls := (hK.1 ci _ hcl).2
  obtain ⟨kA, comp, k1, k2, k3, -⟩ := (hK.2 (4 + kd) _ hty).2
  have hcomp : comp = (gD G).1 ci := Option.some.inj (k3.symm.trans hcls.1)
  subst hcomp
  obtain ⟨kC, hkC, -⟩ := hcls.2
  refine W.aast C.1 C.2.1 (hH.1 a _ ha) (fun q h => by cases h) (fun h => by cases h) k1 k2 rfl hkC ⟨h0, by show _ < (arrV _ _ _).slots.size; rw [arrV_size]; exact hlt⟩ g1 (fun q h => by rw [g3] at h; cases h) (by rw [g2]; exact hkC) (by rw [g2]; exact va_assign hcls) rfl rfl hd fun H1 e z oq => ?_
  have e2 : H1[gb G + a]? = some (vp_cell (gA G (4 + kd)) (n, .inr (.inr (.inr (.inr (fun j => (up2 R a k (some r) a j).map (ra G))))))) := by
    rw [e, vp_cell_q, vp_cell_q, arrV_store, ix_cl hi]
    congr 2
    funext q
    by_cases hq : q = k
    · subst hq
      simp [updV, up2, va_rf, hra]
    · simp [updV, up2, hq]
  exact kk H1 _ la (by rw [hG]; exact HW_set (w' := (N, sh, I, L, up2 R a k (some r))) (e := .inl (gA G (4 + kd), n, .inr (.inr (.inr (.inr (fun j => (up2 R a k (some r) a j).map (ra G))))))) hH rfl hs.1 (ent_ref hs.2) (fun b hb => ent_upR hb) (hH.1.set hD ha e2 oq) z) (by rw [hG]; exact hS.put z oq (hD.2 a _ ha)) hl
end ARR
end
section
/-! calls -/
def ps (r : Option Value) (st : List Value) : List Value := match r with
  | none => st
  | some v => v :: st
theorem ps_eq (r : Option Value) (st : List Value) : r.toList ++ st = ps r st := by cases r <;> rfl
def cats (st : List Value) : Nat := (st.map fun v => v.category).sum
/-- what the tables say of a call -/
def LB (own : String) (idx : Nat) (mi : MI) (np : Nat) : Prop :=
  Cond.code mi.1 mi.2.1 mi.2.2.1 mi.2.2.2 ∈ tbl2 ∧ Cond.initialized mi.1.cls ∈ tbl2 ∧ mi.1.cls ≠ "java/lang/invoke/MethodHandle" ∧ mi.1.cls ≠ "java/lang/invoke/VarHandle" ∧ (parseMethodDescriptor mi.1.desc).map (fun d => d.parameters.length) = some np ∧ mi.2.2.1 ≤ 40
def LKV (own : String) (idx : Nat) (mi : MI) (np : Nat) : Prop := LB own idx mi np ∧ Cond.methodLink own idx mi.1 ∈ tbl2 ∧ Cond.instanceMethod mi.1 ∈ tbl2 ∧ Cond.selects mi.1.cls mi.1 mi.1 ∈ tbl2
def LKS (own : String) (idx : Nat) (mi : MI) (np : Nat) : Prop := LB own idx mi np ∧ Cond.methodLink own idx mi.1 ∈ tbl2 ∧ Cond.static mi.1 ∈ tbl2
def LKI (own : String) (idx : Nat) (mi : MI) (np : Nat) : Prop := LB own idx mi np ∧ Cond.methodLink own idx mi.1 ∈ tbl2 ∧ mi.1.name = "<init>" ∧ mi.2.2.2 = none ∧ Cond.instanceMethod mi.1 ∈ tbl2
def LKSN (own : String) (idx : Nat) (mi : MI) (np : Nat) : Prop := LB own idx mi np ∧ (own, idx, mi.1) ∈ nsL ∧ Cond.static mi.1 ∈ tbl2
def LKIN (own : String) (idx : Nat) (mi : MI) (np : Nat) : Prop := LB own idx mi np ∧ (own, idx, mi.1) ∈ nsL ∧ mi.1.name = "<init>" ∧ mi.2.2.2 = none ∧ Cond.instanceMethod mi.1 ∈ tbl2
theorem goodY {own : String} {idx np : Nat} {mi : MI} (h : LB own idx mi np) : GoodIn tbl2 (wY mi) := fun w hw => by
  rcases List.mem_cons.mp hw with rfl | hw
  · exact ⟨h.1, tbl2_good h.1⟩
  · exact ⟨hw, tbl2_good hw⟩
section CALL
variable {p : Program} {l : Launch} {e : Env} {R : Room} {s : State} {m : MethodId} {args : Array Value} {below : List Frame} {meth : Method} {c : Code} {H : Heap} {locs : List Loc} {cells slots mc ms : Nat} {Q : State → Prop}
theorem run_go {G : GT} {Post : Option Value → Wd → Prop} {a : Array Value} {pc : Nat} {la : Array Slot} {st rest : List Value} (hr : va_Run p l e R s m args below meth c H locs cells slots mc ms (F0 m pc la st) rest (ZQ G Post a) (AG G)) (hS : va_S (AG G) s.heap H locs)
    (kk : ∀ (r : Option Value) (w' : Wd) (H1 : Heap) (locs1 : List Loc), Post r w' → HW G w' H1 → va_S (AG G) s.heap H1 locs1 → W p l e R s m args below meth c H1 locs1 (cells + mc) (slots + ms) Q (F0 m (pc + 3) la (ps r rest))) : W p l e R s m args below meth c H locs cells slots Q (F0 m pc la st) := by
  intro T hT X
  obtain ⟨v, st₀, t, T', L, h0, X', hL, e1, e2, ⟨⟨r, w', hv, hp, hb⟩, hz, hk⟩, go⟩ := hr T hT X
  cases hv
  rw [h0] at hz hk
  obtain ⟨t2, a1, b1⟩ := kk v w' T'.heap (locs ++ L) hp (by rw [e1]; exact hb)
    ⟨Nat.le_trans hS.1 (by rw [e1]; exact hz), fun q h1 h2 => by rw [e1, hk q (Nat.lt_of_lt_of_le h1 hS.1) h2]; exact hS.2.1 q h1 h2, fun q hq => by
      rcases List.mem_append.mp hq with h | h
      · exact hS.2.2 q h
      · exact hL q h⟩ T' rfl X'
  rw [← ps_eq] at a1
  exact ⟨t2, go t2 a1, b1⟩
end CALL
section JCALL
variable {Z : ZT} {G : GT} {mi mi' : MI} {own : String} {cs : Nat × Nat} {pc : Nat} {ls : LV} {st rest As : List Value} {w : Wd} {N : Nat} {sh : Nat → Nat × Nat} {I : Nat → Nat → Int32} {L : Nat → Nat → Int64} {R : Nat → Nat → Option Nat} {Post : Option Value → Wd → Prop} {d d' mc ms mc' ms' idx np b : Nat}
/-- the receiver's class is the method's -/
def RC (Z : ZT) (G : GT) (w : Wd) (b : Nat) (cn : String) : Prop := ∀ (H : Heap) (locs : List Loc), HW G w H → va_S (AG G) (zs Z).heap H locs → ∃ cell : Cell, H[ra G b]? = some cell ∧ cell.vm.isStatics = false ∧ (zs Z).vm.findClass cn = some cell.cls
theorem rc_obj (C : CX Z G mi own) {a ci n : Nat} {cn : String} {T : u_T} (hs : a < N ∧ sh a = (ci, n)) (hc : Nat.blt ci 20 = true) (hcl : cls[ci]? = some (cn, T, n)) : RC Z G (N, sh, I, L, R) a cn := by
  intro H locs hH hS
  have hv : (wsOf G (N, sh, I, L, R))[a]? = some (gb G + a, ent G sh I L R a) := wsA hs.1
  rw [ent_obj hs.2 (Nat.le_of_ble_eq_true hc)] at hv
  rw [ra_lt G (Nat.lt_trans hs.1 hH.2.2)]
  exact va_recv C.2.2.2.2.2.2.2.2.1.1 hH.1 hcl hv
theorem rc_sgn (C : CX Z G mi own) {i : Nat} (hi : i < 42) : RC Z G w (1000 + i) "TenTrials$Sign" := by
  intro H locs hH hS
  have hra : ra G (1000 + i) = gE G i := by
    unfold ra
    rw [if_neg (by omega), if_pos (by omega), show 1000 + i - 1000 = i by omega]
  obtain ⟨cell, c1, c2, c3, -⟩ := (C.2.2.2.2.2.2.2.2.1.2.2.1 i hi).2.1.kept hS.2.1
  rw [hra]
  exact ⟨cell, c1, c2, c3⟩
theorem rc_str (C : CX Z G mi own) {i : Nat} (hi : i < 67) : RC Z G w (2000 + i) "java/lang/String" := by
  intro H locs hH hS
  have hra : ra G (2000 + i) = gK G i := by
    unfold ra
    rw [if_neg (by omega), if_neg (by omega), if_pos (by omega), show 2000 + i - 2000 = i by omega]
  obtain ⟨cell, c1, c2, c3, -⟩ := (C.2.2.2.2.2.2.2.2.1.2.2.2.2.1 i hi).1.kept hS.2.1
  rw [hra]
  exact ⟨cell, c1, c2, c3⟩
theorem pre_blind {as : List Value} {w : Wd} : FrameBlind (va_Pc as (fun U => GW G U ∧ HW G w U.heap)) := fun a U g mk h => ⟨h.1, GW_blind g mk a h.2.1, h.2.2⟩
theorem roomOk (B : RB Z d mc ms) (hdd : Nat.ble (d' + 1) d = true) {k : Nat} (hk : k ≤ 40) {m1 m2 : Nat} : (rmD d' m1 m2).frames + 1 ≤ (zR Z).frames ∧ 8 + (k + 11) + (rmD d' m1 m2).locals ≤ (zR Z).locals := by
  have h := Nat.le_of_ble_eq_true hdd
  obtain ⟨b1, b2, -, -⟩ := B
  refine ⟨Nat.le_trans h b1, ?_⟩
  show 8 + (k + 11) + 60 * d' ≤ _
  omega
theorem j_callV' (C : CX Z G mi own) (B : RB Z d mc ms) (lk : LKV own idx mi' np) (hr : RC Z G w b mi'.1.cls) (hM : Mt (zl Z) G mi' d' mc' ms' (.ref (ra G b) :: As) w Post) (hst : st = As.reverse ++ .ref (ra G b) :: rest) (hn : As.length = np) (hdd : Nat.ble (d' + 1) d = true) (hW : Nat.ble (cats rest) 8 = true) (hcs : cs.1 + mc' ≤ mc ∧ cs.2 + ms' ≤ ms)
    (hd : decode mi.2.1 pc = .ok (.invokevirtual idx, 3)) (kk : ∀ (r : Option Value) (w' : Wd), Post r w' → J Z (cs.1 + mc', cs.2 + ms') (pc + 3) ls (ps r rest) w') : J Z cs pc ls st w := by
  intro H locs la hH hS hl
  have hG : zG Z = G := C.2.2.1
  rw [hG] at hH hS
  obtain ⟨lb, l1, l2, l3⟩ := lk
  have hts := C.2.2.2.2.2.2.1
  have cb : CallB (zR Z) (zs Z) (za Z) own idx mi'.1 mi'.2.1 mi'.2.2.1 mi'.2.2.2 (wY mi') (rmD d' mc' ms') mc' ms' np := callB_of np hts (goodY lb) rfl rfl rfl (hts _ lb.2.1) (hts _ l1) ⟨lb.2.2.1, lb.2.2.2.1, lb.2.2.2.2.1⟩ (roomOk B hdd lb.2.2.2.2.2)
  refine run_go (va_runV (As := As) (rest := rest) ⟨C.1, C.2.1, C.2.2.2.1, C.2.2.2.2.2.1, hts⟩ hM ⟨cb, hts _ l2, hts _ l3⟩ ⟨pre_blind, hr H locs hH hS, fun U hU hWm => ⟨rfl, GW_go C.2.2.2.2.2.2.2.2.1 hS hU hWm, by rw [hU]; exact hH⟩⟩ rfl hn hl.1 hst ?_ hd ⟨Nat.le_trans hcs.1 B.2.2.1, Nat.le_trans hcs.2 B.2.2.2⟩) hS (fun r w' H1 locs1 hp hH1 hS1 => kk r w' hp H1 locs1 la (by rw [hG]; exact hH1) (by rw [hG]; exact hS1) hl)
  have h8 := Nat.le_of_ble_eq_true hW
  show 2 * 0 + cats rest ≤ 8
  omega
theorem j_callS' (C : CX Z G mi own) (B : RB Z d mc ms) (lk : LKS own idx mi' np) (hM : Mt (zl Z) G mi' d' mc' ms' As w Post) (hst : st = As.reverse ++ rest) (hn : As.length = np) (hdd : Nat.ble (d' + 1) d = true) (hW : Nat.ble (cats rest) 8 = true) (hcs : cs.1 + mc' ≤ mc ∧ cs.2 + ms' ≤ ms)
    (hd : decode mi.2.1 pc = .ok (.invokestatic idx, 3)) (kk : ∀ (r : Option Value) (w' : Wd), Post r w' → J Z (cs.1 + mc', cs.2 + ms') (pc + 3) ls (ps r rest) w') : J Z cs pc ls st w := by
  intro H locs la hH hS hl
  have hG : zG Z = G := C.2.2.1
  rw [hG] at hH hS
  obtain ⟨lb, l1, l2⟩ := lk
  have hts := C.2.2.2.2.2.2.1
  have cb : CallB (zR Z) (zs Z) (za Z) own idx mi'.1 mi'.2.1 mi'.2.2.1 mi'.2.2.2 (wY mi') (rmD d' mc' ms') mc' ms' np := callB_of np hts (goodY lb) rfl rfl rfl (hts _ lb.2.1) (hts _ l1) ⟨lb.2.2.1, lb.2.2.2.1, lb.2.2.2.2.1⟩ (roomOk B hdd lb.2.2.2.2.2)
  refine run_go (va_runS (As := As) (rest := rest) ⟨C.1, C.2.1, C.2.2.2.1, C.2.2.2.2.2.1, hts⟩ hM ⟨cb, hts _ l2⟩ ⟨pre_blind, fun U hU hWm => ⟨rfl, GW_go C.2.2.2.2.2.2.2.2.1 hS hU hWm, by rw [hU]; exact hH⟩⟩ rfl hn hl.1 hst ?_ hd ⟨Nat.le_trans hcs.1 B.2.2.1, Nat.le_trans hcs.2 B.2.2.2⟩) hS (fun r w' H1 locs1 hp hH1 hS1 => kk r w' hp H1 locs1 la (by rw [hG]; exact hH1) (by rw [hG]; exact hS1) hl)
  have h8 := Nat.le_of_ble_eq_true hW
  show 2 * 0 + cats rest ≤ 8
  omega
theorem cnB (C : CX Z G mi own) (B : RB Z d mc ms) (lb : LB own idx mi' np) (l1 : (own, idx, mi'.1) ∈ nsL) (hdd : Nat.ble (d' + 1) d = true) : va_CN (zR Z) (zs Z) (za Z) own idx mi'.1 "TenTrials" mi'.2.1 mi'.2.2.1 mi'.2.2.2 (wY mi') (rmD d' mc' ms') mc' ms' np :=
  va_cnB np C.2.2.2.2.2.2.1 (goodY lb) rfl rfl rfl (C.2.2.2.2.2.2.2.2.1.2.1 _ l1) (C.2.2.2.2.2.2.1 _ lb.2.1) ⟨lb.2.2.1, lb.2.2.2.1, lb.2.2.2.2.1⟩ (roomOk B hdd lb.2.2.2.2.2)
theorem j_callSN' (C : CX Z G mi own) (B : RB Z d mc ms) (lk : LKSN own idx mi' np) (hM : Mt (zl Z) G mi' d' mc' ms' As w Post) (hst : st = As.reverse ++ rest) (hn : As.length = np) (hdd : Nat.ble (d' + 1) d = true) (hW : Nat.ble (cats rest) 8 = true) (hcs : cs.1 + mc' ≤ mc ∧ cs.2 + ms' ≤ ms)
    (hd : decode mi.2.1 pc = .ok (.invokestatic idx, 3)) (kk : ∀ (r : Option Value) (w' : Wd), Post r w' → J Z (cs.1 + mc', cs.2 + ms') (pc + 3) ls (ps r rest) w') : J Z cs pc ls st w := by
  intro H locs la hH hS hl
  have hG : zG Z = G := C.2.2.1
  rw [hG] at hH hS
  obtain ⟨lb, l1, l2⟩ := lk
  have hts := C.2.2.2.2.2.2.1
  refine run_go (va_runSN (As := As) (rest := rest) ⟨C.1, C.2.1, C.2.2.2.1, C.2.2.2.2.2.1, hts⟩ hM ⟨cnB C B lb l1 hdd, hts _ l2, trivial⟩ ⟨pre_blind, fun U hU hWm => ⟨rfl, GW_go C.2.2.2.2.2.2.2.2.1 hS hU hWm, by rw [hU]; exact hH⟩⟩ rfl hn hl.1 hst ?_ hd ⟨Nat.le_trans hcs.1 B.2.2.1, Nat.le_trans hcs.2 B.2.2.2⟩) hS (fun r w' H1 locs1 hp hH1 hS1 => kk r w' hp H1 locs1 la (by rw [hG]; exact hH1) (by rw [hG]; exact hS1) hl)
  have h8 := Nat.le_of_ble_eq_true hW
  show 2 * 0 + cats rest ≤ 8
  omega
theorem j_callI' (C : CX Z G mi own) (B : RB Z d mc ms) (lk : LKI own idx mi' np) (hM : Mt (zl Z) G mi' d' mc' ms' (.ref (ra G b) :: As) w Post) (hst : st = As.reverse ++ .ref (ra G b) :: rest) (hn : As.length = np) (hdd : Nat.ble (d' + 1) d = true) (hW : Nat.ble (cats rest) 8 = true) (hcs : cs.1 + mc' ≤ mc ∧ cs.2 + ms' ≤ ms)
    (hd : decode mi.2.1 pc = .ok (.invokespecial idx, 3)) (kk : ∀ (r : Option Value) (w' : Wd), Post r w' → J Z (cs.1 + mc', cs.2 + ms') (pc + 3) ls (ps r rest) w') : J Z cs pc ls st w := by
  intro H locs la hH hS hl
  have hG : zG Z = G := C.2.2.1
  rw [hG] at hH hS
  obtain ⟨lb, l1, l2, l3, l4⟩ := lk
  have hts := C.2.2.2.2.2.2.1
  have cb : CallB (zR Z) (zs Z) (za Z) own idx mi'.1 mi'.2.1 mi'.2.2.1 mi'.2.2.2 (wY mi') (rmD d' mc' ms') mc' ms' np := callB_of np hts (goodY lb) rfl rfl rfl (hts _ lb.2.1) (hts _ l1) ⟨lb.2.2.1, lb.2.2.2.1, lb.2.2.2.2.1⟩ (roomOk B hdd lb.2.2.2.2.2)
  rw [l3] at cb
  refine run_go (va_runI (As := As) (rest := rest) ⟨C.1, C.2.1, C.2.2.2.1, C.2.2.2.2.2.1, hts⟩ hM ⟨cb, l2, hts _ l4⟩ ⟨pre_blind, fun U hU hWm => ⟨rfl, GW_go C.2.2.2.2.2.2.2.2.1 hS hU hWm, by rw [hU]; exact hH⟩⟩ rfl hn hl.1 hst ?_ hd ⟨Nat.le_trans hcs.1 B.2.2.1, Nat.le_trans hcs.2 B.2.2.2⟩) hS (fun r w' H1 locs1 hp hH1 hS1 => kk r w' hp H1 locs1 la (by rw [hG]; exact hH1) (by rw [hG]; exact hS1) hl)
  have h8 := Nat.le_of_ble_eq_true hW
  show 2 * 0 + cats rest ≤ 8
  omega
theorem j_callIN' (C : CX Z G mi own) (B : RB Z d mc ms) (lk : LKIN own idx mi' np) (hM : Mt (zl Z) G mi' d' mc' ms' (.ref (ra G b) :: As) w Post) (hst : st = As.reverse ++ .ref (ra G b) :: rest) (hn : As.length = np) (hdd : Nat.ble (d' + 1) d = true) (hW : Nat.ble (cats rest) 8 = true) (hcs : cs.1 + mc' ≤ mc ∧ cs.2 + ms' ≤ ms)
    (hd : decode mi.2.1 pc = .ok (.invokespecial idx, 3)) (kk : ∀ (r : Option Value) (w' : Wd), Post r w' → J Z (cs.1 + mc', cs.2 + ms') (pc + 3) ls (ps r rest) w') : J Z cs pc ls st w := by
  intro H locs la hH hS hl
  have hG : zG Z = G := C.2.2.1
  rw [hG] at hH hS
  obtain ⟨lb, l1, l2, l3, l4⟩ := lk
  have hts := C.2.2.2.2.2.2.1
  have cb := cnB (mc' := mc') (ms' := ms') C B lb l1 hdd
  rw [l3] at cb
  refine run_go (va_runIN (As := As) (rest := rest) ⟨C.1, C.2.1, C.2.2.2.1, C.2.2.2.2.2.1, hts⟩ hM ⟨cb, l2, hts _ l4⟩ ⟨pre_blind, fun U hU hWm => ⟨rfl, GW_go C.2.2.2.2.2.2.2.2.1 hS hU hWm, by rw [hU]; exact hH⟩⟩ rfl hn hl.1 hst ?_ hd ⟨Nat.le_trans hcs.1 B.2.2.1, Nat.le_trans hcs.2 B.2.2.2⟩) hS (fun r w' H1 locs1 hp hH1 hS1 => kk r w' hp H1 locs1 la (by rw [hG]; exact hH1) (by rw [hG]; exact hS1) hl)
  have h8 := Nat.le_of_ble_eq_true hW
  show 2 * 0 + cats rest ≤ 8
  omega
/-! calls that make nothing -/
theorem j_callV (C : CX Z G mi own) (B : RB Z d mc ms) (lk : LKV own idx mi' np) (hr : RC Z G w b mi'.1.cls) (hM : Mt (zl Z) G mi' d' 0 0 (.ref (ra G b) :: As) w Post) (hst : st = As.reverse ++ .ref (ra G b) :: rest) (hn : As.length = np) (hdd : Nat.ble (d' + 1) d = true) (hW : Nat.ble (cats rest) 8 = true) (hcs : cs.1 ≤ mc ∧ cs.2 ≤ ms)
    (hd : decode mi.2.1 pc = .ok (.invokevirtual idx, 3)) (kk : ∀ (r : Option Value) (w' : Wd), Post r w' → J Z cs (pc + 3) ls (ps r rest) w') : J Z cs pc ls st w := j_callV' C B lk hr hM hst hn hdd hW hcs hd kk
theorem j_callS (C : CX Z G mi own) (B : RB Z d mc ms) (lk : LKS own idx mi' np) (hM : Mt (zl Z) G mi' d' 0 0 As w Post) (hst : st = As.reverse ++ rest) (hn : As.length = np) (hdd : Nat.ble (d' + 1) d = true) (hW : Nat.ble (cats rest) 8 = true) (hcs : cs.1 ≤ mc ∧ cs.2 ≤ ms)
    (hd : decode mi.2.1 pc = .ok (.invokestatic idx, 3)) (kk : ∀ (r : Option Value) (w' : Wd), Post r w' → J Z cs (pc + 3) ls (ps r rest) w') : J Z cs pc ls st w := j_callS' C B lk hM hst hn hdd hW hcs hd kk
theorem j_callSN (C : CX Z G mi own) (B : RB Z d mc ms) (lk : LKSN own idx mi' np) (hM : Mt (zl Z) G mi' d' 0 0 As w Post) (hst : st = As.reverse ++ rest) (hn : As.length = np) (hdd : Nat.ble (d' + 1) d = true) (hW : Nat.ble (cats rest) 8 = true) (hcs : cs.1 ≤ mc ∧ cs.2 ≤ ms)
    (hd : decode mi.2.1 pc = .ok (.invokestatic idx, 3)) (kk : ∀ (r : Option Value) (w' : Wd), Post r w' → J Z cs (pc + 3) ls (ps r rest) w') : J Z cs pc ls st w := j_callSN' C B lk hM hst hn hdd hW hcs hd kk
/-- an answer v, nothing changed -/
def pV (v : Value) (w : Wd) : Option Value → Wd → Prop := fun r w' => r = some v ∧ w' = w
/-- no answer, the world w -/
def pN (w : Wd) : Option Value → Wd → Prop := fun r w' => r = none ∧ w' = w
theorem j_cVp {v : Value} (C : CX Z G mi own) (B : RB Z d mc ms) (lk : LKV own idx mi' np) (hr : RC Z G w b mi'.1.cls) (hM : Mt (zl Z) G mi' d' 0 0 (.ref (ra G b) :: As) w (pV v w)) (hst : st = As.reverse ++ .ref (ra G b) :: rest) (hn : As.length = np) (hdd : Nat.ble (d' + 1) d = true) (hW : Nat.ble (cats rest) 8 = true) (hcs : cs.1 ≤ mc ∧ cs.2 ≤ ms)
    (hd : decode mi.2.1 pc = .ok (.invokevirtual idx, 3)) (kk : J Z cs (pc + 3) ls (v :: rest) w) : J Z cs pc ls st w := j_callV C B lk hr hM hst hn hdd hW hcs hd (fun r w' h => by obtain ⟨rfl, rfl⟩ := h; exact kk)
theorem j_cSp {v : Value} (C : CX Z G mi own) (B : RB Z d mc ms) (lk : LKS own idx mi' np) (hM : Mt (zl Z) G mi' d' 0 0 As w (pV v w)) (hst : st = As.reverse ++ rest) (hn : As.length = np) (hdd : Nat.ble (d' + 1) d = true) (hW : Nat.ble (cats rest) 8 = true) (hcs : cs.1 ≤ mc ∧ cs.2 ≤ ms)
    (hd : decode mi.2.1 pc = .ok (.invokestatic idx, 3)) (kk : J Z cs (pc + 3) ls (v :: rest) w) : J Z cs pc ls st w := j_callS C B lk hM hst hn hdd hW hcs hd (fun r w' h => by obtain ⟨rfl, rfl⟩ := h; exact kk)
theorem j_cSNp {v : Value} (C : CX Z G mi own) (B : RB Z d mc ms) (lk : LKSN own idx mi' np) (hM : Mt (zl Z) G mi' d' 0 0 As w (pV v w)) (hst : st = As.reverse ++ rest) (hn : As.length = np) (hdd : Nat.ble (d' + 1) d = true) (hW : Nat.ble (cats rest) 8 = true) (hcs : cs.1 ≤ mc ∧ cs.2 ≤ ms)
    (hd : decode mi.2.1 pc = .ok (.invokestatic idx, 3)) (kk : J Z cs (pc + 3) ls (v :: rest) w) : J Z cs pc ls st w := j_callSN C B lk hM hst hn hdd hW hcs hd (fun r w' h => by obtain ⟨rfl, rfl⟩ := h; exact kk)
/-! answers -/
theorem ZQ_ret {s t : State} {H : Heap} {locs : List Loc} {a : Array Value} {r : Option Value} (hp : Post r w) (hH : HW G w H) (hS : va_S (AG G) s.heap H locs) (ht : t.heap = H) : ZQ G Post a s (.returned r) t := ⟨⟨r, w, rfl, hp, by rw [ht]; exact hH⟩, hS.F ht⟩
theorem j_nret (C : CX Z G mi own) (P : CP Z mc ms Post) {v : Int32} {ty : FieldType} (hr : mi.2.2.2 = some ty) (hn : narrow ty (.int v) = .int v) (hd : decode mi.2.1 pc = .ok (.ireturn, 1)) (hcs : cs.1 ≤ mc ∧ cs.2 ≤ ms) (hp : Post (some (.int v)) w) : J Z cs pc ls [.int v] w := by
  intro H locs la hH hS hl
  have P' : zQ Z = _ := P
  rw [P']
  exact W.widen hcs.1 hcs.2 (W.zret C.1 C.2.1 (C.2.2.2.2.2.2.2.2.2.1.trans hr) hn (fun t ht _ => ZQ_ret hp hH hS ht) hS.2.2 hd C.2.2.2.2.2.2.2.1)
theorem j_iret (C : CX Z G mi own) (P : CP Z mc ms Post) {v : Int32} (hr : mi.2.2.2 = some .int) (hd : decode mi.2.1 pc = .ok (.ireturn, 1)) (hcs : cs.1 ≤ mc ∧ cs.2 ≤ ms) (hp : Post (some (.int v)) w) : J Z cs pc ls [.int v] w := j_nret C P hr rfl hd hcs hp
theorem j_zret (C : CX Z G mi own) (P : CP Z mc ms Post) {v : Int32} (hr : mi.2.2.2 = some .boolean) (hb : isB v) (hd : decode mi.2.1 pc = .ok (.ireturn, 1)) (hcs : cs.1 ≤ mc ∧ cs.2 ≤ ms) (hp : Post (some (.int v)) w) : J Z cs pc ls [.int v] w := j_nret C P hr (isB_n hb) hd hcs hp
theorem j_lret (C : CX Z G mi own) (P : CP Z mc ms Post) {v : Int64} (hr : mi.2.2.2 = some .long) (hd : decode mi.2.1 pc = .ok (.lreturn, 1)) (hcs : cs.1 ≤ mc ∧ cs.2 ≤ ms) (hp : Post (some (.long v)) w) : J Z cs pc ls [.long v] w := by
  intro H locs la hH hS hl
  have P' : zQ Z = _ := P
  rw [P']
  exact W.widen hcs.1 hcs.2 (W.lret C.1 C.2.1 (C.2.2.2.2.2.2.2.2.2.1.trans hr) (fun t ht _ => ZQ_ret hp hH hS ht) hS.2.2 hd C.2.2.2.2.2.2.2.1)
theorem j_aret (C : CX Z G mi own) (P : CP Z mc ms Post) {v : Nat} {rt : FieldType} (hr : mi.2.2.2 = some rt) (hrt : (∃ n, rt = .object n) ∨ ∃ t, rt = .array t) (hd : decode mi.2.1 pc = .ok (.areturn, 1)) (hcs : cs.1 ≤ mc ∧ cs.2 ≤ ms) (hp : Post (some (.ref v)) w) : J Z cs pc ls [.ref v] w := by
  intro H locs la hH hS hl
  have P' : zQ Z = _ := P
  rw [P']
  exact W.widen hcs.1 hcs.2 (W.aret C.1 C.2.1 (C.2.2.2.2.2.2.2.2.2.1.trans hr) hrt (Or.inr ⟨v, rfl⟩) (fun t ht _ => ZQ_ret hp hH hS ht) hS.2.2 hd C.2.2.2.2.2.2.2.1)
theorem j_vret (C : CX Z G mi own) (P : CP Z mc ms Post) (hr : mi.2.2.2 = none) (hd : decode mi.2.1 pc = .ok (.return_, 1)) (hcs : cs.1 ≤ mc ∧ cs.2 ≤ ms) (hp : Post none w) : J Z cs pc ls [] w := by
  intro H locs la hH hS hl
  have P' : zQ Z = _ := P
  rw [P']
  exact W.widen hcs.1 hcs.2 (W.vret C.1 C.2.1 (C.2.2.2.2.2.2.2.2.2.1.trans hr) (fun t ht _ => ZQ_ret hp hH hS ht) hS.2.2 hd C.2.2.2.2.2.2.2.1)
/-! Math -/
def LM (own : String) (idx : Nat) (y : MethodName) (c : ByteArray) (n : Nat) (t : FieldType) : Prop := Cond.methodLink own idx y ∈ tbl2 ∧ Cond.static y ∈ tbl2 ∧ Cond.initialized "java/lang/Math" ∈ tbl2 ∧ Cond.code y c n (some t) ∈ tbl2
theorem mathRoom (B : RB Z d mc ms) (hdd : Nat.ble 1 d = true) (hW : Nat.ble (cats st) 8 = true) (hcs : cs.1 ≤ mc ∧ cs.2 ≤ ms) : 1 ≤ (zR Z).frames ∧ (st.map fun v => v.category).sum + 15 ≤ (zR Z).locals ∧ cs.1 ≤ (zR Z).cells ∧ cs.2 ≤ (zR Z).slots := by
  have h1 := Nat.le_of_ble_eq_true hdd
  have h2 : (st.map fun v => v.category).sum ≤ 8 := Nat.le_of_ble_eq_true hW
  obtain ⟨b1, b2, b3, b4⟩ := B
  exact ⟨by omega, by omega, by omega, by omega⟩
theorem j_mmax (C : CX Z G mi own) (B : RB Z d mc ms) (lk : LM own idx Lib.Math.max.name Lib.Math.max.code 2 .int) {x y : Int32} (hdd : Nat.ble 1 d = true) (hW : Nat.ble (cats st) 8 = true) (hcs : cs.1 ≤ mc ∧ cs.2 ≤ ms) (hd : decode mi.2.1 pc = .ok (.invokestatic idx, 3)) (kk : J Z cs (pc + 3) ls (.int (if x < y then y else x) :: st) w) : J Z cs pc ls (.int y :: .int x :: st) w := by
  intro H locs la hH hS hl
  obtain ⟨r1, r2, r3, r4⟩ := mathRoom B hdd hW hcs
  have hts := C.2.2.2.2.2.2.1
  exact va_mmax C.1 C.2.1 (by rw [hl.1]; exact C.2.2.2.1) C.2.2.2.2.2.1 (hts _ lk.1) (hts _ lk.2.1) (hts _ lk.2.2.1) (hts _ lk.2.2.2) r1 (by omega) r3 r4 hd (kk H locs la hH hS hl)
theorem j_mmin (C : CX Z G mi own) (B : RB Z d mc ms) (lk : LM own idx Lib.Math.min.name Lib.Math.min.code 2 .int) {x y : Int32} (hdd : Nat.ble 1 d = true) (hW : Nat.ble (cats st) 8 = true) (hcs : cs.1 ≤ mc ∧ cs.2 ≤ ms) (hd : decode mi.2.1 pc = .ok (.invokestatic idx, 3)) (kk : J Z cs (pc + 3) ls (.int (if y < x then y else x) :: st) w) : J Z cs pc ls (.int y :: .int x :: st) w := by
  intro H locs la hH hS hl
  obtain ⟨r1, r2, r3, r4⟩ := mathRoom B hdd hW hcs
  have hts := C.2.2.2.2.2.2.1
  exact va_mmin C.1 C.2.1 (by rw [hl.1]; exact C.2.2.2.1) C.2.2.2.2.2.1 (hts _ lk.1) (hts _ lk.2.1) (hts _ lk.2.2.1) (hts _ lk.2.2.2) r1 (by omega) r3 r4 hd (kk H locs la hH hS hl)
theorem j_mabs (C : CX Z G mi own) (B : RB Z d mc ms) (lk : LM own idx Lib.Math.abs.name Lib.Math.abs.code 1 .int) {x : Int32} (hdd : Nat.ble 1 d = true) (hW : Nat.ble (cats st) 8 = true) (hcs : cs.1 ≤ mc ∧ cs.2 ≤ ms) (hd : decode mi.2.1 pc = .ok (.invokestatic idx, 3)) (kk : J Z cs (pc + 3) ls (.int (if 0 ≤ x then x else 0 - x) :: st) w) : J Z cs pc ls (.int x :: st) w := by
  intro H locs la hH hS hl
  obtain ⟨r1, r2, r3, r4⟩ := mathRoom B hdd hW hcs
  have hts := C.2.2.2.2.2.2.1
  exact va_mabs C.1 C.2.1 (by rw [hl.1]; exact C.2.2.2.1) C.2.2.2.2.2.1 (hts _ lk.1) (hts _ lk.2.1) (hts _ lk.2.2.1) (hts _ lk.2.2.2) r1 (by omega) r3 r4 hd (kk H locs la hH hS hl)
theorem j_mminL (C : CX Z G mi own) (B : RB Z d mc ms) (lk : LM own idx Lib.MathLoose.min_long.x Lib.MathLoose.min_long.code 4 .long) {x y : Int64} (hdd : Nat.ble 1 d = true) (hW : Nat.ble (cats st) 8 = true) (hcs : cs.1 ≤ mc ∧ cs.2 ≤ ms) (hd : decode mi.2.1 pc = .ok (.invokestatic idx, 3)) (kk : J Z cs (pc + 3) ls (.long (if y < x then y else x) :: st) w) : J Z cs pc ls (.long y :: .long x :: st) w := by
  intro H locs la hH hS hl
  obtain ⟨r1, r2, r3, r4⟩ := mathRoom B hdd hW hcs
  have hts := C.2.2.2.2.2.2.1
  exact va_mmin_long C.1 C.2.1 (by rw [hl.1]; exact C.2.2.2.1) C.2.2.2.2.2.1 (hts _ lk.1) (hts _ lk.2.1) (hts _ lk.2.2.1) (hts _ lk.2.2.2) r1 (by omega) r3 r4 hd (kk H locs la hH hS hl)
/-! signs -/
theorem ra_sgn (G : GT) {i : Nat} (hi : i < 42) : ra G (1000 + i) = gE G i := by
  unfold ra
  rw [if_neg (by omega), if_pos (by omega), show 1000 + i - 1000 = i by omega]
theorem j_gsgn (C : CX Z G mi own) {i : Nat} (hi : i < 42) (lk : Cond.fieldLink own idx "TenTrials$Sign" (sgL.getD i "") "LTenTrials$Sign;" ∈ tbl2) (hd : decode mi.2.1 pc = .ok (.getstatic idx, 3)) (kk : J Z cs (pc + 3) ls (.ref (ra G (1000 + i)) :: st) w) : J Z cs pc ls st w := by
  intro H locs la hH hS hl
  have hG : zG Z = G := C.2.2.1
  have kk := kk H locs la hH hS hl
  rw [hG] at hS
  rw [ra_sgn G hi] at kk
  exact va_gets C.1 C.2.1 (C.2.2.2.2.2.2.2.2.1.2.2.1 i hi).1 hS C.2.2.2.2.2.1 (C.2.2.2.2.2.2.1 _ lk) (fun _ h => h) hd kk
/-- two signs, by their numbers -/
theorem j_acmpS (C : CX Z G mi own) {rx : Option Nat} {i : Nat} (hi : i < 42) (hrx : ∀ r, rx = some r → ∃ j, j < 42 ∧ r = 1000 + j) {off : Int} (tgt : Nat) (hd : decode mi.2.1 pc = .ok (.if_acmp .ne off, 3)) (ht : (pc : Int) + off = (tgt : Int)) (kt : ¬ rx = some (1000 + i) → J Z cs tgt ls st w) (kf : rx = some (1000 + i) → J Z cs (pc + 3) ls st w) : J Z cs pc ls (.ref (ra G (1000 + i)) :: rv G rx :: st) w := by
  have h := j_acmp_ne (rx := rx) (ry := some (1000 + i)) (ls := ls) (st := st) (w := w) (cs := cs) C tgt hd ht
  refine h (fun z => kt (fun q => z (by rw [q]))) (fun z => kf ?_)
  cases rx with
  | none => cases z
  | some r =>
    obtain ⟨j, hj, rfl⟩ := hrx r rfl
    have z := Option.some.inj z
    rw [ra_sgn G hj, ra_sgn G hi] at z
    rw [C.2.2.2.2.2.2.2.2.1.2.2.2.1 j i hj hi z]
/-- the text of an entry of the pool -/
theorem j_ldcS (C : CX Z G mi own) {i : Nat} {tx : String} {by9 : List Int32} (hi : i < 67) (hq : stL[i]? = some (own, idx, tx, by9)) (hd : decode mi.2.1 pc = .ok (.ldc idx, 2)) (kk : J Z cs (pc + 2) ls (.ref (ra G (2000 + i)) :: st) w) : J Z cs pc ls st w := by
  intro H locs la hH hS hl
  have kk := kk H locs la hH hS hl
  have hra : ra G (2000 + i) = gK G i := by
    unfold ra
    rw [if_neg (by omega), if_neg (by omega), if_pos (by omega), show 2000 + i - 2000 = i by omega]
  rw [hra] at kk
  exact va_ldcS C.1 C.2.1 C.2.2.2.2.2.1 (C.2.2.2.2.2.2.2.2.1.2.2.2.2.2.1 i _ hq) hd kk
end JCALL
end
section
def R_law : String := "TenTrialsLaw"
def inTs : List Cond → List Nat → Bool
  | [], _ => true
  | w :: t, i :: is => inT i w && inTs t is
  | _ :: _, [] => false
theorem inTs_mem : ∀ {ws : List Cond} {is : List Nat}, inTs ws is = true → ∀ w ∈ ws, w ∈ tbl2
  | [], _, _, w, h => absurd h List.not_mem_nil
  | w0 :: t, i :: is, h, w, hw => by
    have h2 := Bool.and_eq_true_iff.mp (show (inT i w0 && inTs t is) = true from h)
    rcases List.mem_cons.mp hw with rfl | hw
    · exact inT_mem h2.1
    · exact inTs_mem h2.2 w hw
  | _ :: _, [], h, _, _ => by cases h
theorem us_X0 : ∀ w ∈ u_ws RX0 TX0 8, w ∈ tbl2 := inTs_mem (is := [230, 232, 234, 236, 238, 240, 242, 244]) (by decide +kernel)
theorem us_X1 : ∀ w ∈ u_ws RX1 TX1 8, w ∈ tbl2 := inTs_mem (is := [332, 334, 336, 338, 340, 342, 344, 346]) (by decide +kernel)
theorem us_X2 : ∀ w ∈ u_ws RX2 TX2 5, w ∈ tbl2 := inTs_mem (is := [388, 390, 392, 394, 396]) (by decide +kernel)
theorem us_X3 : ∀ w ∈ u_ws RX3 TX3 2, w ∈ tbl2 := inTs_mem (is := [152, 154]) (by decide +kernel)
theorem us_X4 : ∀ w ∈ u_ws RX4 TX4 8, w ∈ tbl2 := inTs_mem (is := [359, 361, 363, 365, 367, 369, 371, 373]) (by decide +kernel)
theorem us_X5 : ∀ w ∈ u_ws RX5 TX5 9, w ∈ tbl2 := inTs_mem (is := [429, 431, 433, 435, 437, 439, 441, 443, 445]) (by decide +kernel)
theorem us_X6 : ∀ w ∈ u_ws RX6 TX6 3, w ∈ tbl2 := inTs_mem (is := [490, 492, 494]) (by decide +kernel)
theorem us_X8 : ∀ w ∈ u_ws RX8 TX8 6, w ∈ tbl2 := inTs_mem (is := [465, 467, 469, 471, 473, 475]) (by decide +kernel)
theorem us_X9 : ∀ w ∈ u_ws RX9 TX9 5, w ∈ tbl2 := inTs_mem (is := [193, 195, 197, 199, 201]) (by decide +kernel)
theorem us_X10 : ∀ w ∈ u_ws RX10 TX10 9, w ∈ tbl2 := inTs_mem (is := [277, 279, 281, 283, 285, 287, 289, 291, 293]) (by decide +kernel)
theorem us_X11 : ∀ w ∈ u_ws RX11 TX11 12, w ∈ tbl2 := inTs_mem (is := [509, 511, 513, 515, 517, 519, 521, 523, 525, 527, 529, 531]) (by decide +kernel)
theorem us_X12 : ∀ w ∈ u_ws RX12 TX12 48, w ∈ tbl2 := inTs_mem (is := [1385, 1387, 1389, 1391, 1393, 1395, 1397, 1399, 1401, 1403, 1405, 1407, 1409, 1411, 1413, 1415, 1417, 1419, 1421, 1423, 1425, 1427, 1429, 1431, 1433, 1435, 1437, 1439, 1441, 1443, 1445, 1447, 1449, 1451, 1453, 1455, 1457, 1459, 1461, 1463, 1465, 1467, 1469, 1471, 1473, 1475, 1477, 1479]) (by decide +kernel)
theorem f_X3_7 : FL RX3 7 3 2 0 (.array .byte) true := ⟨RX3, TX3, tyX3, rfl, us_X3, tyX3_ok, nmX3, by decide, inT_mem (i := 148) (by decide +kernel), tyX3_ok 0 (by decide), rfl, rfl⟩
theorem f_X11_308 : FL RX11 308 3 2 0 (.array .byte) true := ⟨RX3, TX3, tyX3, rfl, us_X3, tyX3_ok, nmX3, by decide, inT_mem (i := 149) (by decide +kernel), tyX3_ok 0 (by decide), rfl, rfl⟩
theorem f_X3_13 : FL RX3 13 3 2 1 (.int) false := ⟨RX3, TX3, tyX3, rfl, us_X3, tyX3_ok, nmX3, by decide, inT_mem (i := 150) (by decide +kernel), tyX3_ok 1 (by decide), rfl, rfl⟩
theorem f_X11_117 : FL RX11 117 3 2 1 (.int) false := ⟨RX3, TX3, tyX3, rfl, us_X3, tyX3_ok, nmX3, by decide, inT_mem (i := 151) (by decide +kernel), tyX3_ok 1 (by decide), rfl, rfl⟩
theorem g_X7_130 : Cond.fieldLink RX7 130 "TenTrials$Sign" "$VALUES" "[LTenTrials$Sign;" ∈ tbl2 := inT_mem (i := 175) (by decide +kernel)
theorem f_X9_11 : FL RX9 11 9 5 0 (.array (.object "TenTrials$Sign")) true := ⟨RX9, TX9, tyX9, rfl, us_X9, tyX9_ok, nmX9, by decide, inT_mem (i := 184) (by decide +kernel), tyX9_ok 0 (by decide), rfl, rfl⟩
theorem f_X4_66 : FL RX4 66 9 5 0 (.array (.object "TenTrials$Sign")) true := ⟨RX9, TX9, tyX9, rfl, us_X9, tyX9_ok, nmX9, by decide, inT_mem (i := 185) (by decide +kernel), tyX9_ok 0 (by decide), rfl, rfl⟩
theorem f_X9_17 : FL RX9 17 9 5 1 (.array .int) true := ⟨RX9, TX9, tyX9, rfl, us_X9, tyX9_ok, nmX9, by decide, inT_mem (i := 186) (by decide +kernel), tyX9_ok 1 (by decide), rfl, rfl⟩
theorem f_X4_73 : FL RX4 73 9 5 1 (.array .int) true := ⟨RX9, TX9, tyX9, rfl, us_X9, tyX9_ok, nmX9, by decide, inT_mem (i := 187) (by decide +kernel), tyX9_ok 1 (by decide), rfl, rfl⟩
theorem f_X9_21 : FL RX9 21 9 5 2 (.array .int) true := ⟨RX9, TX9, tyX9, rfl, us_X9, tyX9_ok, nmX9, by decide, inT_mem (i := 188) (by decide +kernel), tyX9_ok 2 (by decide), rfl, rfl⟩
theorem f_X4_87 : FL RX4 87 9 5 2 (.array .int) true := ⟨RX9, TX9, tyX9, rfl, us_X9, tyX9_ok, nmX9, by decide, inT_mem (i := 189) (by decide +kernel), tyX9_ok 2 (by decide), rfl, rfl⟩
theorem f_X9_31 : FL RX9 31 9 5 3 (.int) false := ⟨RX9, TX9, tyX9, rfl, us_X9, tyX9_ok, nmX9, by decide, inT_mem (i := 190) (by decide +kernel), tyX9_ok 3 (by decide), rfl, rfl⟩
theorem f_X4_70 : FL RX4 70 9 5 3 (.int) false := ⟨RX9, TX9, tyX9, rfl, us_X9, tyX9_ok, nmX9, by decide, inT_mem (i := 191) (by decide +kernel), tyX9_ok 3 (by decide), rfl, rfl⟩
theorem f_X9_28 : FL RX9 28 9 5 4 (.array (.object "TenTrials$Sign")) true := ⟨RX9, TX9, tyX9, rfl, us_X9, tyX9_ok, nmX9, by decide, inT_mem (i := 192) (by decide +kernel), tyX9_ok 4 (by decide), rfl, rfl⟩
theorem f_X0_9 : FL RX0 9 0 8 0 (.array .int) true := ⟨RX0, TX0, tyX0, rfl, us_X0, tyX0_ok, nmX0, by decide, inT_mem (i := 219) (by decide +kernel), tyX0_ok 0 (by decide), rfl, rfl⟩
theorem f_X11_224 : FL RX11 224 0 8 0 (.array .int) true := ⟨RX0, TX0, tyX0, rfl, us_X0, tyX0_ok, nmX0, by decide, inT_mem (i := 220) (by decide +kernel), tyX0_ok 0 (by decide), rfl, rfl⟩
theorem f_X0_24 : FL RX0 24 0 8 1 (.int) false := ⟨RX0, TX0, tyX0, rfl, us_X0, tyX0_ok, nmX0, by decide, inT_mem (i := 221) (by decide +kernel), tyX0_ok 1 (by decide), rfl, rfl⟩
theorem f_X11_108 : FL RX11 108 0 8 1 (.int) false := ⟨RX0, TX0, tyX0, rfl, us_X0, tyX0_ok, nmX0, by decide, inT_mem (i := 222) (by decide +kernel), tyX0_ok 1 (by decide), rfl, rfl⟩
theorem f_X4_133 : FL RX4 133 0 8 1 (.int) false := ⟨RX0, TX0, tyX0, rfl, us_X0, tyX0_ok, nmX0, by decide, inT_mem (i := 223) (by decide +kernel), tyX0_ok 1 (by decide), rfl, rfl⟩
theorem f_X0_15 : FL RX0 15 0 8 2 (.array .int) true := ⟨RX0, TX0, tyX0, rfl, us_X0, tyX0_ok, nmX0, by decide, inT_mem (i := 224) (by decide +kernel), tyX0_ok 2 (by decide), rfl, rfl⟩
theorem f_X0_18 : FL RX0 18 0 8 3 (.array .int) true := ⟨RX0, TX0, tyX0, rfl, us_X0, tyX0_ok, nmX0, by decide, inT_mem (i := 225) (by decide +kernel), tyX0_ok 3 (by decide), rfl, rfl⟩
theorem f_X0_28 : FL RX0 28 0 8 4 (.int) false := ⟨RX0, TX0, tyX0, rfl, us_X0, tyX0_ok, nmX0, by decide, inT_mem (i := 226) (by decide +kernel), tyX0_ok 4 (by decide), rfl, rfl⟩
theorem f_X0_31 : FL RX0 31 0 8 5 (.int) false := ⟨RX0, TX0, tyX0, rfl, us_X0, tyX0_ok, nmX0, by decide, inT_mem (i := 227) (by decide +kernel), tyX0_ok 5 (by decide), rfl, rfl⟩
theorem f_X0_21 : FL RX0 21 0 8 6 (.array .int) true := ⟨RX0, TX0, tyX0, rfl, us_X0, tyX0_ok, nmX0, by decide, inT_mem (i := 228) (by decide +kernel), tyX0_ok 6 (by decide), rfl, rfl⟩
theorem f_X0_35 : FL RX0 35 0 8 7 (.int) false := ⟨RX0, TX0, tyX0, rfl, us_X0, tyX0_ok, nmX0, by decide, inT_mem (i := 229) (by decide +kernel), tyX0_ok 7 (by decide), rfl, rfl⟩
theorem f_X10_18 : FL RX10 18 10 9 0 (.boolean) false := ⟨RX10, TX10, tyX10, rfl, us_X10, tyX10_ok, nmX10, by decide, inT_mem (i := 252) (by decide +kernel), tyX10_ok 0 (by decide), rfl, rfl⟩
theorem f_X11_128 : FL RX11 128 10 9 0 (.boolean) false := ⟨RX10, TX10, tyX10, rfl, us_X10, tyX10_ok, nmX10, by decide, inT_mem (i := 253) (by decide +kernel), tyX10_ok 0 (by decide), rfl, rfl⟩
theorem f_X4_164 : FL RX4 164 10 9 0 (.boolean) false := ⟨RX10, TX10, tyX10, rfl, us_X10, tyX10_ok, nmX10, by decide, inT_mem (i := 254) (by decide +kernel), tyX10_ok 0 (by decide), rfl, rfl⟩
theorem f_X10_22 : FL RX10 22 10 9 1 (.int) false := ⟨RX10, TX10, tyX10, rfl, us_X10, tyX10_ok, nmX10, by decide, inT_mem (i := 255) (by decide +kernel), tyX10_ok 1 (by decide), rfl, rfl⟩
theorem f_X11_133 : FL RX11 133 10 9 1 (.int) false := ⟨RX10, TX10, tyX10, rfl, us_X10, tyX10_ok, nmX10, by decide, inT_mem (i := 256) (by decide +kernel), tyX10_ok 1 (by decide), rfl, rfl⟩
theorem f_X4_176 : FL RX4 176 10 9 1 (.int) false := ⟨RX10, TX10, tyX10, rfl, us_X10, tyX10_ok, nmX10, by decide, inT_mem (i := 257) (by decide +kernel), tyX10_ok 1 (by decide), rfl, rfl⟩
theorem f_X10_26 : FL RX10 26 10 9 2 (.int) false := ⟨RX10, TX10, tyX10, rfl, us_X10, tyX10_ok, nmX10, by decide, inT_mem (i := 258) (by decide +kernel), tyX10_ok 2 (by decide), rfl, rfl⟩
theorem f_X11_136 : FL RX11 136 10 9 2 (.int) false := ⟨RX10, TX10, tyX10, rfl, us_X10, tyX10_ok, nmX10, by decide, inT_mem (i := 259) (by decide +kernel), tyX10_ok 2 (by decide), rfl, rfl⟩
theorem f_X4_198 : FL RX4 198 10 9 2 (.int) false := ⟨RX10, TX10, tyX10, rfl, us_X10, tyX10_ok, nmX10, by decide, inT_mem (i := 260) (by decide +kernel), tyX10_ok 2 (by decide), rfl, rfl⟩
theorem f_X10_42 : FL RX10 42 10 9 3 (.int) false := ⟨RX10, TX10, tyX10, rfl, us_X10, tyX10_ok, nmX10, by decide, inT_mem (i := 261) (by decide +kernel), tyX10_ok 3 (by decide), rfl, rfl⟩
theorem f_X11_142 : FL RX11 142 10 9 3 (.int) false := ⟨RX10, TX10, tyX10, rfl, us_X10, tyX10_ok, nmX10, by decide, inT_mem (i := 262) (by decide +kernel), tyX10_ok 3 (by decide), rfl, rfl⟩
theorem f_X4_207 : FL RX4 207 10 9 3 (.int) false := ⟨RX10, TX10, tyX10, rfl, us_X10, tyX10_ok, nmX10, by decide, inT_mem (i := 263) (by decide +kernel), tyX10_ok 3 (by decide), rfl, rfl⟩
theorem f_X10_36 : FL RX10 36 10 9 4 (.int) false := ⟨RX10, TX10, tyX10, rfl, us_X10, tyX10_ok, nmX10, by decide, inT_mem (i := 264) (by decide +kernel), tyX10_ok 4 (by decide), rfl, rfl⟩
theorem f_X11_145 : FL RX11 145 10 9 4 (.int) false := ⟨RX10, TX10, tyX10, rfl, us_X10, tyX10_ok, nmX10, by decide, inT_mem (i := 265) (by decide +kernel), tyX10_ok 4 (by decide), rfl, rfl⟩
theorem f_X4_213 : FL RX4 213 10 9 4 (.int) false := ⟨RX10, TX10, tyX10, rfl, us_X10, tyX10_ok, nmX10, by decide, inT_mem (i := 266) (by decide +kernel), tyX10_ok 4 (by decide), rfl, rfl⟩
theorem f_X8_69 : FL RX8 69 10 9 5 (.int) false := ⟨RX10, TX10, tyX10, rfl, us_X10, tyX10_ok, nmX10, by decide, inT_mem (i := 267) (by decide +kernel), tyX10_ok 5 (by decide), rfl, rfl⟩
theorem f_X11_148 : FL RX11 148 10 9 5 (.int) false := ⟨RX10, TX10, tyX10, rfl, us_X10, tyX10_ok, nmX10, by decide, inT_mem (i := 268) (by decide +kernel), tyX10_ok 5 (by decide), rfl, rfl⟩
theorem f_X4_189 : FL RX4 189 10 9 5 (.int) false := ⟨RX10, TX10, tyX10, rfl, us_X10, tyX10_ok, nmX10, by decide, inT_mem (i := 269) (by decide +kernel), tyX10_ok 5 (by decide), rfl, rfl⟩
theorem f_X10_53 : FL RX10 53 10 9 6 (.int) false := ⟨RX10, TX10, tyX10, rfl, us_X10, tyX10_ok, nmX10, by decide, inT_mem (i := 270) (by decide +kernel), tyX10_ok 6 (by decide), rfl, rfl⟩
theorem f_X11_139 : FL RX11 139 10 9 6 (.int) false := ⟨RX10, TX10, tyX10, rfl, us_X10, tyX10_ok, nmX10, by decide, inT_mem (i := 271) (by decide +kernel), tyX10_ok 6 (by decide), rfl, rfl⟩
theorem f_X4_216 : FL RX4 216 10 9 6 (.int) false := ⟨RX10, TX10, tyX10, rfl, us_X10, tyX10_ok, nmX10, by decide, inT_mem (i := 272) (by decide +kernel), tyX10_ok 6 (by decide), rfl, rfl⟩
theorem f_X10_9 : FL RX10 9 10 9 7 (.array .int) true := ⟨RX10, TX10, tyX10, rfl, us_X10, tyX10_ok, nmX10, by decide, inT_mem (i := 273) (by decide +kernel), tyX10_ok 7 (by decide), rfl, rfl⟩
theorem f_X4_225 : FL RX4 225 10 9 7 (.array .int) true := ⟨RX10, TX10, tyX10, rfl, us_X10, tyX10_ok, nmX10, by decide, inT_mem (i := 274) (by decide +kernel), tyX10_ok 7 (by decide), rfl, rfl⟩
theorem f_X10_15 : FL RX10 15 10 9 8 (.array .int) true := ⟨RX10, TX10, tyX10, rfl, us_X10, tyX10_ok, nmX10, by decide, inT_mem (i := 275) (by decide +kernel), tyX10_ok 8 (by decide), rfl, rfl⟩
theorem f_X4_228 : FL RX4 228 10 9 8 (.array .int) true := ⟨RX10, TX10, tyX10, rfl, us_X10, tyX10_ok, nmX10, by decide, inT_mem (i := 276) (by decide +kernel), tyX10_ok 8 (by decide), rfl, rfl⟩
theorem f_X1_11 : FL RX1 11 1 8 0 (.array (.object "TenTrials$Trial")) true := ⟨RX1, TX1, tyX1, rfl, us_X1, tyX1_ok, nmX1, by decide, inT_mem (i := 296) (by decide +kernel), tyX1_ok 0 (by decide), rfl, rfl⟩
theorem f_X5_30 : FL RX5 30 1 8 0 (.array (.object "TenTrials$Trial")) true := ⟨RX1, TX1, tyX1, rfl, us_X1, tyX1_ok, nmX1, by decide, inT_mem (i := 297) (by decide +kernel), tyX1_ok 0 (by decide), rfl, rfl⟩
theorem f_X8_65 : FL RX8 65 1 8 0 (.array (.object "TenTrials$Trial")) true := ⟨RX1, TX1, tyX1, rfl, us_X1, tyX1_ok, nmX1, by decide, inT_mem (i := 298) (by decide +kernel), tyX1_ok 0 (by decide), rfl, rfl⟩
theorem f_X11_124 : FL RX11 124 1 8 0 (.array (.object "TenTrials$Trial")) true := ⟨RX1, TX1, tyX1, rfl, us_X1, tyX1_ok, nmX1, by decide, inT_mem (i := 299) (by decide +kernel), tyX1_ok 0 (by decide), rfl, rfl⟩
theorem f_X4_157 : FL RX4 157 1 8 0 (.array (.object "TenTrials$Trial")) true := ⟨RX1, TX1, tyX1, rfl, us_X1, tyX1_ok, nmX1, by decide, inT_mem (i := 300) (by decide +kernel), tyX1_ok 0 (by decide), rfl, rfl⟩
theorem f_X1_17 : FL RX1 17 1 8 1 (.array .int) true := ⟨RX1, TX1, tyX1, rfl, us_X1, tyX1_ok, nmX1, by decide, inT_mem (i := 301) (by decide +kernel), tyX1_ok 1 (by decide), rfl, rfl⟩
theorem f_X2_37 : FL RX2 37 1 8 1 (.array .int) true := ⟨RX1, TX1, tyX1, rfl, us_X1, tyX1_ok, nmX1, by decide, inT_mem (i := 302) (by decide +kernel), tyX1_ok 1 (by decide), rfl, rfl⟩
theorem f_X4_253 : FL RX4 253 1 8 1 (.array .int) true := ⟨RX1, TX1, tyX1, rfl, us_X1, tyX1_ok, nmX1, by decide, inT_mem (i := 303) (by decide +kernel), tyX1_ok 1 (by decide), rfl, rfl⟩
theorem f_X11_334 : FL RX11 334 1 8 1 (.array .int) true := ⟨RX1, TX1, tyX1, rfl, us_X1, tyX1_ok, nmX1, by decide, inT_mem (i := 304) (by decide +kernel), tyX1_ok 1 (by decide), rfl, rfl⟩
theorem f_X1_21 : FL RX1 21 1 8 2 (.array .int) true := ⟨RX1, TX1, tyX1, rfl, us_X1, tyX1_ok, nmX1, by decide, inT_mem (i := 305) (by decide +kernel), tyX1_ok 2 (by decide), rfl, rfl⟩
theorem f_X2_42 : FL RX2 42 1 8 2 (.array .int) true := ⟨RX1, TX1, tyX1, rfl, us_X1, tyX1_ok, nmX1, by decide, inT_mem (i := 306) (by decide +kernel), tyX1_ok 2 (by decide), rfl, rfl⟩
theorem f_X4_256 : FL RX4 256 1 8 2 (.array .int) true := ⟨RX1, TX1, tyX1, rfl, us_X1, tyX1_ok, nmX1, by decide, inT_mem (i := 307) (by decide +kernel), tyX1_ok 2 (by decide), rfl, rfl⟩
theorem f_X11_265 : FL RX11 265 1 8 2 (.array .int) true := ⟨RX1, TX1, tyX1, rfl, us_X1, tyX1_ok, nmX1, by decide, inT_mem (i := 308) (by decide +kernel), tyX1_ok 2 (by decide), rfl, rfl⟩
theorem f_X1_24 : FL RX1 24 1 8 3 (.array .int) true := ⟨RX1, TX1, tyX1, rfl, us_X1, tyX1_ok, nmX1, by decide, inT_mem (i := 309) (by decide +kernel), tyX1_ok 3 (by decide), rfl, rfl⟩
theorem f_X2_45 : FL RX2 45 1 8 3 (.array .int) true := ⟨RX1, TX1, tyX1, rfl, us_X1, tyX1_ok, nmX1, by decide, inT_mem (i := 310) (by decide +kernel), tyX1_ok 3 (by decide), rfl, rfl⟩
theorem f_X4_262 : FL RX4 262 1 8 3 (.array .int) true := ⟨RX1, TX1, tyX1, rfl, us_X1, tyX1_ok, nmX1, by decide, inT_mem (i := 311) (by decide +kernel), tyX1_ok 3 (by decide), rfl, rfl⟩
theorem f_X11_268 : FL RX11 268 1 8 3 (.array .int) true := ⟨RX1, TX1, tyX1, rfl, us_X1, tyX1_ok, nmX1, by decide, inT_mem (i := 312) (by decide +kernel), tyX1_ok 3 (by decide), rfl, rfl⟩
theorem f_X1_30 : FL RX1 30 1 8 4 (.object "TenTrials$Bonuses") true := ⟨RX1, TX1, tyX1, rfl, us_X1, tyX1_ok, nmX1, by decide, inT_mem (i := 313) (by decide +kernel), tyX1_ok 4 (by decide), rfl, rfl⟩
theorem f_X8_41 : FL RX8 41 1 8 4 (.object "TenTrials$Bonuses") true := ⟨RX1, TX1, tyX1, rfl, us_X1, tyX1_ok, nmX1, by decide, inT_mem (i := 314) (by decide +kernel), tyX1_ok 4 (by decide), rfl, rfl⟩
theorem f_X11_104 : FL RX11 104 1 8 4 (.object "TenTrials$Bonuses") true := ⟨RX1, TX1, tyX1, rfl, us_X1, tyX1_ok, nmX1, by decide, inT_mem (i := 315) (by decide +kernel), tyX1_ok 4 (by decide), rfl, rfl⟩
theorem f_X4_129 : FL RX4 129 1 8 4 (.object "TenTrials$Bonuses") true := ⟨RX1, TX1, tyX1, rfl, us_X1, tyX1_ok, nmX1, by decide, inT_mem (i := 316) (by decide +kernel), tyX1_ok 4 (by decide), rfl, rfl⟩
theorem f_X1_35 : FL RX1 35 1 8 5 (.int) false := ⟨RX1, TX1, tyX1, rfl, us_X1, tyX1_ok, nmX1, by decide, inT_mem (i := 317) (by decide +kernel), tyX1_ok 5 (by decide), rfl, rfl⟩
theorem f_X5_19 : FL RX5 19 1 8 5 (.int) false := ⟨RX1, TX1, tyX1, rfl, us_X1, tyX1_ok, nmX1, by decide, inT_mem (i := 318) (by decide +kernel), tyX1_ok 5 (by decide), rfl, rfl⟩
theorem f_X8_29 : FL RX8 29 1 8 5 (.int) false := ⟨RX1, TX1, tyX1, rfl, us_X1, tyX1_ok, nmX1, by decide, inT_mem (i := 319) (by decide +kernel), tyX1_ok 5 (by decide), rfl, rfl⟩
theorem f_X11_98 : FL RX11 98 1 8 5 (.int) false := ⟨RX1, TX1, tyX1, rfl, us_X1, tyX1_ok, nmX1, by decide, inT_mem (i := 320) (by decide +kernel), tyX1_ok 5 (by decide), rfl, rfl⟩
theorem f_X4_104 : FL RX4 104 1 8 5 (.int) false := ⟨RX1, TX1, tyX1, rfl, us_X1, tyX1_ok, nmX1, by decide, inT_mem (i := 321) (by decide +kernel), tyX1_ok 5 (by decide), rfl, rfl⟩
theorem f_X8_22 : FL RX8 22 1 8 6 (.int) false := ⟨RX1, TX1, tyX1, rfl, us_X1, tyX1_ok, nmX1, by decide, inT_mem (i := 322) (by decide +kernel), tyX1_ok 6 (by decide), rfl, rfl⟩
theorem f_X1_39 : FL RX1 39 1 8 6 (.int) false := ⟨RX1, TX1, tyX1, rfl, us_X1, tyX1_ok, nmX1, by decide, inT_mem (i := 323) (by decide +kernel), tyX1_ok 6 (by decide), rfl, rfl⟩
theorem f_X2_51 : FL RX2 51 1 8 6 (.int) false := ⟨RX1, TX1, tyX1, rfl, us_X1, tyX1_ok, nmX1, by decide, inT_mem (i := 324) (by decide +kernel), tyX1_ok 6 (by decide), rfl, rfl⟩
theorem f_X11_101 : FL RX11 101 1 8 6 (.int) false := ⟨RX1, TX1, tyX1, rfl, us_X1, tyX1_ok, nmX1, by decide, inT_mem (i := 325) (by decide +kernel), tyX1_ok 6 (by decide), rfl, rfl⟩
theorem f_X4_97 : FL RX4 97 1 8 6 (.int) false := ⟨RX1, TX1, tyX1, rfl, us_X1, tyX1_ok, nmX1, by decide, inT_mem (i := 326) (by decide +kernel), tyX1_ok 6 (by decide), rfl, rfl⟩
theorem f_X1_42 : FL RX1 42 1 8 7 (.int) false := ⟨RX1, TX1, tyX1, rfl, us_X1, tyX1_ok, nmX1, by decide, inT_mem (i := 327) (by decide +kernel), tyX1_ok 7 (by decide), rfl, rfl⟩
theorem f_X8_33 : FL RX8 33 1 8 7 (.int) false := ⟨RX1, TX1, tyX1, rfl, us_X1, tyX1_ok, nmX1, by decide, inT_mem (i := 328) (by decide +kernel), tyX1_ok 7 (by decide), rfl, rfl⟩
theorem f_X2_48 : FL RX2 48 1 8 7 (.int) false := ⟨RX1, TX1, tyX1, rfl, us_X1, tyX1_ok, nmX1, by decide, inT_mem (i := 329) (by decide +kernel), tyX1_ok 7 (by decide), rfl, rfl⟩
theorem f_X11_113 : FL RX11 113 1 8 7 (.int) false := ⟨RX1, TX1, tyX1, rfl, us_X1, tyX1_ok, nmX1, by decide, inT_mem (i := 330) (by decide +kernel), tyX1_ok 7 (by decide), rfl, rfl⟩
theorem f_X4_237 : FL RX4 237 1 8 7 (.int) false := ⟨RX1, TX1, tyX1, rfl, us_X1, tyX1_ok, nmX1, by decide, inT_mem (i := 331) (by decide +kernel), tyX1_ok 7 (by decide), rfl, rfl⟩
theorem f_X4_43 : FL RX4 43 4 8 0 (.int) false := ⟨RX4, TX4, tyX4, rfl, us_X4, tyX4_ok, nmX4, by decide, inT_mem (i := 349) (by decide +kernel), tyX4_ok 0 (by decide), rfl, rfl⟩
theorem f_X11_92 : FL RX11 92 4 8 0 (.int) false := ⟨RX4, TX4, tyX4, rfl, us_X4, tyX4_ok, nmX4, by decide, inT_mem (i := 350) (by decide +kernel), tyX4_ok 0 (by decide), rfl, rfl⟩
theorem f_X4_9 : FL RX4 9 4 8 1 (.int) false := ⟨RX4, TX4, tyX4, rfl, us_X4, tyX4_ok, nmX4, by decide, inT_mem (i := 351) (by decide +kernel), tyX4_ok 1 (by decide), rfl, rfl⟩
theorem f_X11_95 : FL RX11 95 4 8 1 (.int) false := ⟨RX4, TX4, tyX4, rfl, us_X4, tyX4_ok, nmX4, by decide, inT_mem (i := 352) (by decide +kernel), tyX4_ok 1 (by decide), rfl, rfl⟩
theorem f_X4_18 : FL RX4 18 4 8 2 (.object "TenTrials$Tokens") true := ⟨RX4, TX4, tyX4, rfl, us_X4, tyX4_ok, nmX4, by decide, inT_mem (i := 353) (by decide +kernel), tyX4_ok 2 (by decide), rfl, rfl⟩
theorem f_X4_25 : FL RX4 25 4 8 3 (.object "TenTrials$Contest") false := ⟨RX4, TX4, tyX4, rfl, us_X4, tyX4_ok, nmX4, by decide, inT_mem (i := 354) (by decide +kernel), tyX4_ok 3 (by decide), rfl, rfl⟩
theorem f_X4_36 : FL RX4 36 4 8 4 (.int) false := ⟨RX4, TX4, tyX4, rfl, us_X4, tyX4_ok, nmX4, by decide, inT_mem (i := 355) (by decide +kernel), tyX4_ok 4 (by decide), rfl, rfl⟩
theorem f_X4_90 : FL RX4 90 4 8 5 (.int) false := ⟨RX4, TX4, tyX4, rfl, us_X4, tyX4_ok, nmX4, by decide, inT_mem (i := 356) (by decide +kernel), tyX4_ok 5 (by decide), rfl, rfl⟩
theorem f_X4_111 : FL RX4 111 4 8 6 (.int) false := ⟨RX4, TX4, tyX4, rfl, us_X4, tyX4_ok, nmX4, by decide, inT_mem (i := 357) (by decide +kernel), tyX4_ok 6 (by decide), rfl, rfl⟩
theorem f_X4_39 : FL RX4 39 4 8 7 (.boolean) false := ⟨RX4, TX4, tyX4, rfl, us_X4, tyX4_ok, nmX4, by decide, inT_mem (i := 358) (by decide +kernel), tyX4_ok 7 (by decide), rfl, rfl⟩
theorem f_X2_9 : FL RX2 9 2 5 0 (.array .int) true := ⟨RX2, TX2, tyX2, rfl, us_X2, tyX2_ok, nmX2, by decide, inT_mem (i := 382) (by decide +kernel), tyX2_ok 0 (by decide), rfl, rfl⟩
theorem f_X2_15 : FL RX2 15 2 5 1 (.array .int) true := ⟨RX2, TX2, tyX2, rfl, us_X2, tyX2_ok, nmX2, by decide, inT_mem (i := 383) (by decide +kernel), tyX2_ok 1 (by decide), rfl, rfl⟩
theorem f_X2_18 : FL RX2 18 2 5 2 (.array .int) true := ⟨RX2, TX2, tyX2, rfl, us_X2, tyX2_ok, nmX2, by decide, inT_mem (i := 384) (by decide +kernel), tyX2_ok 2 (by decide), rfl, rfl⟩
theorem f_X2_21 : FL RX2 21 2 5 3 (.array .int) true := ⟨RX2, TX2, tyX2, rfl, us_X2, tyX2_ok, nmX2, by decide, inT_mem (i := 385) (by decide +kernel), tyX2_ok 3 (by decide), rfl, rfl⟩
theorem f_X2_24 : FL RX2 24 2 5 4 (.int) false := ⟨RX2, TX2, tyX2, rfl, us_X2, tyX2_ok, nmX2, by decide, inT_mem (i := 386) (by decide +kernel), tyX2_ok 4 (by decide), rfl, rfl⟩
theorem f_X11_116 : FL RX11 116 2 5 4 (.int) false := ⟨RX2, TX2, tyX2, rfl, us_X2, tyX2_ok, nmX2, by decide, inT_mem (i := 387) (by decide +kernel), tyX2_ok 4 (by decide), rfl, rfl⟩
theorem f_X5_9 : FL RX5 9 5 9 0 (.array .int) true := ⟨RX5, TX5, tyX5, rfl, us_X5, tyX5_ok, nmX5, by decide, inT_mem (i := 407) (by decide +kernel), tyX5_ok 0 (by decide), rfl, rfl⟩
theorem f_X8_107 : FL RX8 107 5 9 0 (.array .int) true := ⟨RX5, TX5, tyX5, rfl, us_X5, tyX5_ok, nmX5, by decide, inT_mem (i := 408) (by decide +kernel), tyX5_ok 0 (by decide), rfl, rfl⟩
theorem f_X11_314 : FL RX11 314 5 9 0 (.array .int) true := ⟨RX5, TX5, tyX5, rfl, us_X5, tyX5_ok, nmX5, by decide, inT_mem (i := 409) (by decide +kernel), tyX5_ok 0 (by decide), rfl, rfl⟩
theorem f_X5_15 : FL RX5 15 5 9 1 (.array .boolean) true := ⟨RX5, TX5, tyX5, rfl, us_X5, tyX5_ok, nmX5, by decide, inT_mem (i := 410) (by decide +kernel), tyX5_ok 1 (by decide), rfl, rfl⟩
theorem f_X11_320 : FL RX11 320 5 9 1 (.array .boolean) true := ⟨RX5, TX5, tyX5, rfl, us_X5, tyX5_ok, nmX5, by decide, inT_mem (i := 411) (by decide +kernel), tyX5_ok 1 (by decide), rfl, rfl⟩
theorem f_X5_25 : FL RX5 25 5 9 2 (.int) false := ⟨RX5, TX5, tyX5, rfl, us_X5, tyX5_ok, nmX5, by decide, inT_mem (i := 412) (by decide +kernel), tyX5_ok 2 (by decide), rfl, rfl⟩
theorem f_X5_43 : FL RX5 43 5 9 3 (.int) false := ⟨RX5, TX5, tyX5, rfl, us_X5, tyX5_ok, nmX5, by decide, inT_mem (i := 413) (by decide +kernel), tyX5_ok 3 (by decide), rfl, rfl⟩
theorem f_X8_114 : FL RX8 114 5 9 3 (.int) false := ⟨RX5, TX5, tyX5, rfl, us_X5, tyX5_ok, nmX5, by decide, inT_mem (i := 414) (by decide +kernel), tyX5_ok 3 (by decide), rfl, rfl⟩
theorem f_X0_63 : FL RX0 63 5 9 3 (.int) false := ⟨RX5, TX5, tyX5, rfl, us_X5, tyX5_ok, nmX5, by decide, inT_mem (i := 415) (by decide +kernel), tyX5_ok 3 (by decide), rfl, rfl⟩
theorem f_X11_195 : FL RX11 195 5 9 3 (.int) false := ⟨RX5, TX5, tyX5, rfl, us_X5, tyX5_ok, nmX5, by decide, inT_mem (i := 416) (by decide +kernel), tyX5_ok 3 (by decide), rfl, rfl⟩
theorem f_X5_46 : FL RX5 46 5 9 4 (.int) false := ⟨RX5, TX5, tyX5, rfl, us_X5, tyX5_ok, nmX5, by decide, inT_mem (i := 417) (by decide +kernel), tyX5_ok 4 (by decide), rfl, rfl⟩
theorem f_X11_201 : FL RX11 201 5 9 4 (.int) false := ⟨RX5, TX5, tyX5, rfl, us_X5, tyX5_ok, nmX5, by decide, inT_mem (i := 418) (by decide +kernel), tyX5_ok 4 (by decide), rfl, rfl⟩
theorem f_X5_49 : FL RX5 49 5 9 5 (.int) false := ⟨RX5, TX5, tyX5, rfl, us_X5, tyX5_ok, nmX5, by decide, inT_mem (i := 419) (by decide +kernel), tyX5_ok 5 (by decide), rfl, rfl⟩
theorem f_X8_123 : FL RX8 123 5 9 5 (.int) false := ⟨RX5, TX5, tyX5, rfl, us_X5, tyX5_ok, nmX5, by decide, inT_mem (i := 420) (by decide +kernel), tyX5_ok 5 (by decide), rfl, rfl⟩
theorem f_X11_204 : FL RX11 204 5 9 5 (.int) false := ⟨RX5, TX5, tyX5, rfl, us_X5, tyX5_ok, nmX5, by decide, inT_mem (i := 421) (by decide +kernel), tyX5_ok 5 (by decide), rfl, rfl⟩
theorem f_X5_52 : FL RX5 52 5 9 6 (.int) false := ⟨RX5, TX5, tyX5, rfl, us_X5, tyX5_ok, nmX5, by decide, inT_mem (i := 422) (by decide +kernel), tyX5_ok 6 (by decide), rfl, rfl⟩
theorem f_X11_207 : FL RX11 207 5 9 6 (.int) false := ⟨RX5, TX5, tyX5, rfl, us_X5, tyX5_ok, nmX5, by decide, inT_mem (i := 423) (by decide +kernel), tyX5_ok 6 (by decide), rfl, rfl⟩
theorem f_X8_117 : FL RX8 117 5 9 7 (.int) false := ⟨RX5, TX5, tyX5, rfl, us_X5, tyX5_ok, nmX5, by decide, inT_mem (i := 424) (by decide +kernel), tyX5_ok 7 (by decide), rfl, rfl⟩
theorem f_X0_56 : FL RX0 56 5 9 7 (.int) false := ⟨RX5, TX5, tyX5, rfl, us_X5, tyX5_ok, nmX5, by decide, inT_mem (i := 425) (by decide +kernel), tyX5_ok 7 (by decide), rfl, rfl⟩
theorem f_X11_198 : FL RX11 198 5 9 7 (.int) false := ⟨RX5, TX5, tyX5, rfl, us_X5, tyX5_ok, nmX5, by decide, inT_mem (i := 426) (by decide +kernel), tyX5_ok 7 (by decide), rfl, rfl⟩
theorem f_X8_101 : FL RX8 101 5 9 8 (.int) false := ⟨RX5, TX5, tyX5, rfl, us_X5, tyX5_ok, nmX5, by decide, inT_mem (i := 427) (by decide +kernel), tyX5_ok 8 (by decide), rfl, rfl⟩
theorem f_X11_210 : FL RX11 210 5 9 8 (.int) false := ⟨RX5, TX5, tyX5, rfl, us_X5, tyX5_ok, nmX5, by decide, inT_mem (i := 428) (by decide +kernel), tyX5_ok 8 (by decide), rfl, rfl⟩
theorem f_X8_11 : FL RX8 11 8 6 0 (.array (.object "TenTrials$Score")) true := ⟨RX8, TX8, tyX8, rfl, us_X8, tyX8_ok, nmX8, by decide, inT_mem (i := 458) (by decide +kernel), tyX8_ok 0 (by decide), rfl, rfl⟩
theorem f_X11_191 : FL RX11 191 8 6 0 (.array (.object "TenTrials$Score")) true := ⟨RX8, TX8, tyX8, rfl, us_X8, tyX8_ok, nmX8, by decide, inT_mem (i := 459) (by decide +kernel), tyX8_ok 0 (by decide), rfl, rfl⟩
theorem f_X8_28 : FL RX8 28 8 6 1 (.int) false := ⟨RX8, TX8, tyX8, rfl, us_X8, tyX8_ok, nmX8, by decide, inT_mem (i := 460) (by decide +kernel), tyX8_ok 1 (by decide), rfl, rfl⟩
theorem f_X8_32 : FL RX8 32 8 6 2 (.int) false := ⟨RX8, TX8, tyX8, rfl, us_X8, tyX8_ok, nmX8, by decide, inT_mem (i := 461) (by decide +kernel), tyX8_ok 2 (by decide), rfl, rfl⟩
theorem f_X8_36 : FL RX8 36 8 6 3 (.int) false := ⟨RX8, TX8, tyX8, rfl, us_X8, tyX8_ok, nmX8, by decide, inT_mem (i := 462) (by decide +kernel), tyX8_ok 3 (by decide), rfl, rfl⟩
theorem f_X8_17 : FL RX8 17 8 6 4 (.array .int) true := ⟨RX8, TX8, tyX8, rfl, us_X8, tyX8_ok, nmX8, by decide, inT_mem (i := 463) (by decide +kernel), tyX8_ok 4 (by decide), rfl, rfl⟩
theorem f_X8_54 : FL RX8 54 8 6 5 (.long) false := ⟨RX8, TX8, tyX8, rfl, us_X8, tyX8_ok, nmX8, by decide, inT_mem (i := 464) (by decide +kernel), tyX8_ok 5 (by decide), rfl, rfl⟩
theorem f_X6_11 : FL RX6 11 6 3 0 (.array (.array .int)) true := ⟨RX6, TX6, tyX6, rfl, us_X6, tyX6_ok, nmX6, by decide, inT_mem (i := 486) (by decide +kernel), tyX6_ok 0 (by decide), rfl, rfl⟩
theorem f_X11_357 : FL RX11 357 6 3 0 (.array (.array .int)) true := ⟨RX6, TX6, tyX6, rfl, us_X6, tyX6_ok, nmX6, by decide, inT_mem (i := 487) (by decide +kernel), tyX6_ok 0 (by decide), rfl, rfl⟩
theorem f_X6_16 : FL RX6 16 6 3 1 (.array (.array .int)) true := ⟨RX6, TX6, tyX6, rfl, us_X6, tyX6_ok, nmX6, by decide, inT_mem (i := 488) (by decide +kernel), tyX6_ok 1 (by decide), rfl, rfl⟩
theorem f_X6_19 : FL RX6 19 6 3 2 (.int) false := ⟨RX6, TX6, tyX6, rfl, us_X6, tyX6_ok, nmX6, by decide, inT_mem (i := 489) (by decide +kernel), tyX6_ok 2 (by decide), rfl, rfl⟩
theorem f_X11_9 : FL RX11 9 11 12 0 (.array .byte) true := ⟨RX11, TX11, tyX11, rfl, us_X11, tyX11_ok, nmX11, by decide, inT_mem (i := 497) (by decide +kernel), tyX11_ok 0 (by decide), rfl, rfl⟩
theorem f_X11_69 : FL RX11 69 11 12 1 (.int) false := ⟨RX11, TX11, tyX11, rfl, us_X11, tyX11_ok, nmX11, by decide, inT_mem (i := 498) (by decide +kernel), tyX11_ok 1 (by decide), rfl, rfl⟩
theorem f_X11_16 : FL RX11 16 11 12 2 (.object "TenTrials$Page") true := ⟨RX11, TX11, tyX11, rfl, us_X11, tyX11_ok, nmX11, by decide, inT_mem (i := 499) (by decide +kernel), tyX11_ok 2 (by decide), rfl, rfl⟩
theorem f_X11_23 : FL RX11 23 11 12 3 (.object "TenTrials$Reader") true := ⟨RX11, TX11, tyX11, rfl, us_X11, tyX11_ok, nmX11, by decide, inT_mem (i := 500) (by decide +kernel), tyX11_ok 3 (by decide), rfl, rfl⟩
theorem f_X11_30 : FL RX11 30 11 12 4 (.object "TenTrials$History") true := ⟨RX11, TX11, tyX11, rfl, us_X11, tyX11_ok, nmX11, by decide, inT_mem (i := 501) (by decide +kernel), tyX11_ok 4 (by decide), rfl, rfl⟩
theorem f_X11_37 : FL RX11 37 11 12 5 (.object "TenTrials$Contest") false := ⟨RX11, TX11, tyX11, rfl, us_X11, tyX11_ok, nmX11, by decide, inT_mem (i := 502) (by decide +kernel), tyX11_ok 5 (by decide), rfl, rfl⟩
theorem f_X11_85 : FL RX11 85 11 12 6 (.boolean) false := ⟨RX11, TX11, tyX11, rfl, us_X11, tyX11_ok, nmX11, by decide, inT_mem (i := 503) (by decide +kernel), tyX11_ok 6 (by decide), rfl, rfl⟩
theorem f_X11_44 : FL RX11 44 11 12 7 (.object "TenTrials$Score") true := ⟨RX11, TX11, tyX11, rfl, us_X11, tyX11_ok, nmX11, by decide, inT_mem (i := 504) (by decide +kernel), tyX11_ok 7 (by decide), rfl, rfl⟩
theorem f_X11_51 : FL RX11 51 11 12 8 (.object "TenTrials$Standings") true := ⟨RX11, TX11, tyX11, rfl, us_X11, tyX11_ok, nmX11, by decide, inT_mem (i := 505) (by decide +kernel), tyX11_ok 8 (by decide), rfl, rfl⟩
theorem f_X11_58 : FL RX11 58 11 12 9 (.object "TenTrials$Shares") true := ⟨RX11, TX11, tyX11, rfl, us_X11, tyX11_ok, nmX11, by decide, inT_mem (i := 506) (by decide +kernel), tyX11_ok 9 (by decide), rfl, rfl⟩
theorem f_X11_62 : FL RX11 62 11 12 10 (.object "TenTrials$Shares") true := ⟨RX11, TX11, tyX11, rfl, us_X11, tyX11_ok, nmX11, by decide, inT_mem (i := 507) (by decide +kernel), tyX11_ok 10 (by decide), rfl, rfl⟩
theorem f_X11_65 : FL RX11 65 11 12 11 (.array .int) true := ⟨RX11, TX11, tyX11, rfl, us_X11, tyX11_ok, nmX11, by decide, inT_mem (i := 508) (by decide +kernel), tyX11_ok 11 (by decide), rfl, rfl⟩
theorem s_X9_60 : Cond.fieldLink RX9 60 "TenTrials$Sign" "NUMBER" "LTenTrials$Sign;" ∈ tbl2 := inT_mem (i := 571) (by decide +kernel)
theorem g_J0_38 : Cond.fieldLink RJ0 38 "java/lang/String" "COMPACT_STRINGS" "Z" ∈ tbl2 := inT_mem (i := 596) (by decide +kernel)
theorem g_J0_1053 : Cond.fieldLink RJ0 1053 "jdk/internal/util/Preconditions" "SIOOBE_FORMATTER" "Ljava/util/function/BiFunction;" ∈ tbl2 := inT_mem (i := 612) (by decide +kernel)
theorem g_J2_44 : Cond.fieldLink RJ2 44 "java/lang/StringUTF16" "$assertionsDisabled" "Z" ∈ tbl2 := inT_mem (i := 630) (by decide +kernel)
theorem g_J2_59 : Cond.fieldLink RJ2 59 "java/lang/StringUTF16" "HI_BYTE_SHIFT" "I" ∈ tbl2 := inT_mem (i := 632) (by decide +kernel)
theorem g_J2_63 : Cond.fieldLink RJ2 63 "java/lang/StringUTF16" "LO_BYTE_SHIFT" "I" ∈ tbl2 := inT_mem (i := 634) (by decide +kernel)
theorem s_X9_78 : Cond.fieldLink RX9 78 "TenTrials$Sign" "STRANGE" "LTenTrials$Sign;" ∈ tbl2 := inT_mem (i := 636) (by decide +kernel)
theorem s_X9_49 : Cond.fieldLink RX9 49 "TenTrials$Sign" "END" "LTenTrials$Sign;" ∈ tbl2 := inT_mem (i := 641) (by decide +kernel)
theorem s_X4_46 : Cond.fieldLink RX4 46 "TenTrials$Sign" "END" "LTenTrials$Sign;" ∈ tbl2 := inT_mem (i := 651) (by decide +kernel)
theorem s_X4_114 : Cond.fieldLink RX4 114 "TenTrials$Sign" "EVENT" "LTenTrials$Sign;" ∈ tbl2 := inT_mem (i := 660) (by decide +kernel)
theorem s_X4_161 : Cond.fieldLink RX4 161 "TenTrials$Sign" "FIELD" "LTenTrials$Sign;" ∈ tbl2 := inT_mem (i := 670) (by decide +kernel)
theorem s_X4_169 : Cond.fieldLink RX4 169 "TenTrials$Sign" "RUN" "LTenTrials$Sign;" ∈ tbl2 := inT_mem (i := 672) (by decide +kernel)
theorem s_X4_172 : Cond.fieldLink RX4 172 "TenTrials$Sign" "BASE" "LTenTrials$Sign;" ∈ tbl2 := inT_mem (i := 682) (by decide +kernel)
theorem s_X4_84 : Cond.fieldLink RX4 84 "TenTrials$Sign" "NUMBER" "LTenTrials$Sign;" ∈ tbl2 := inT_mem (i := 689) (by decide +kernel)
theorem s_X4_179 : Cond.fieldLink RX4 179 "TenTrials$Sign" "TABLE_OF" "LTenTrials$Sign;" ∈ tbl2 := inT_mem (i := 693) (by decide +kernel)
theorem s_X4_231 : Cond.fieldLink RX4 231 "TenTrials$Sign" "COLON" "LTenTrials$Sign;" ∈ tbl2 := inT_mem (i := 703) (by decide +kernel)
theorem s_X4_222 : Cond.fieldLink RX4 222 "TenTrials$Sign" "COMMA" "LTenTrials$Sign;" ∈ tbl2 := inT_mem (i := 705) (by decide +kernel)
theorem s_X4_195 : Cond.fieldLink RX4 195 "TenTrials$Sign" "LINE_BY" "LTenTrials$Sign;" ∈ tbl2 := inT_mem (i := 711) (by decide +kernel)
theorem s_X4_201 : Cond.fieldLink RX4 201 "TenTrials$Sign" "SQUARE_BY" "LTenTrials$Sign;" ∈ tbl2 := inT_mem (i := 713) (by decide +kernel)
theorem s_X4_204 : Cond.fieldLink RX4 204 "TenTrials$Sign" "ROOT_BY" "LTenTrials$Sign;" ∈ tbl2 := inT_mem (i := 715) (by decide +kernel)
theorem s_X4_210 : Cond.fieldLink RX4 210 "TenTrials$Sign" "BY" "LTenTrials$Sign;" ∈ tbl2 := inT_mem (i := 717) (by decide +kernel)
theorem s_X4_192 : Cond.fieldLink RX4 192 "TenTrials$Sign" "SPREAD" "LTenTrials$Sign;" ∈ tbl2 := inT_mem (i := 719) (by decide +kernel)
theorem s_X4_120 : Cond.fieldLink RX4 120 "TenTrials$Sign" "TIE" "LTenTrials$Sign;" ∈ tbl2 := inT_mem (i := 721) (by decide +kernel)
theorem s_X4_234 : Cond.fieldLink RX4 234 "TenTrials$Sign" "NO_RULE" "LTenTrials$Sign;" ∈ tbl2 := inT_mem (i := 727) (by decide +kernel)
theorem s_X4_240 : Cond.fieldLink RX4 240 "TenTrials$Sign" "BEST" "LTenTrials$Sign;" ∈ tbl2 := inT_mem (i := 729) (by decide +kernel)
theorem s_X4_243 : Cond.fieldLink RX4 243 "TenTrials$Sign" "WINS" "LTenTrials$Sign;" ∈ tbl2 := inT_mem (i := 731) (by decide +kernel)
theorem s_X4_126 : Cond.fieldLink RX4 126 "TenTrials$Sign" "BONUS" "LTenTrials$Sign;" ∈ tbl2 := inT_mem (i := 733) (by decide +kernel)
theorem s_X4_265 : Cond.fieldLink RX4 265 "TenTrials$Sign" "WHEN" "LTenTrials$Sign;" ∈ tbl2 := inT_mem (i := 739) (by decide +kernel)
theorem s_X4_291 : Cond.fieldLink RX4 291 "TenTrials$Sign" "NOT" "LTenTrials$Sign;" ∈ tbl2 := inT_mem (i := 753) (by decide +kernel)
theorem s_X4_297 : Cond.fieldLink RX4 297 "TenTrials$Sign" "TEST_OPENS" "LTenTrials$Sign;" ∈ tbl2 := inT_mem (i := 764) (by decide +kernel)
theorem s_X4_315 : Cond.fieldLink RX4 315 "TenTrials$Sign" "TEST_CLOSES" "LTenTrials$Sign;" ∈ tbl2 := inT_mem (i := 770) (by decide +kernel)
theorem s_X4_327 : Cond.fieldLink RX4 327 "TenTrials$Sign" "SUM_OPENS" "LTenTrials$Sign;" ∈ tbl2 := inT_mem (i := 780) (by decide +kernel)
theorem s_X4_330 : Cond.fieldLink RX4 330 "TenTrials$Sign" "SUM_CLOSES" "LTenTrials$Sign;" ∈ tbl2 := inT_mem (i := 782) (by decide +kernel)
theorem s_X4_333 : Cond.fieldLink RX4 333 "TenTrials$Sign" "POINTS" "LTenTrials$Sign;" ∈ tbl2 := inT_mem (i := 784) (by decide +kernel)
theorem s_X4_339 : Cond.fieldLink RX4 339 "TenTrials$Sign" "DONE" "LTenTrials$Sign;" ∈ tbl2 := inT_mem (i := 790) (by decide +kernel)
theorem s_X4_342 : Cond.fieldLink RX4 342 "TenTrials$Sign" "LEAST" "LTenTrials$Sign;" ∈ tbl2 := inT_mem (i := 792) (by decide +kernel)
theorem s_X4_345 : Cond.fieldLink RX4 345 "TenTrials$Sign" "TOTAL" "LTenTrials$Sign;" ∈ tbl2 := inT_mem (i := 794) (by decide +kernel)
theorem s_X4_321 : Cond.fieldLink RX4 321 "TenTrials$Sign" "PLUS" "LTenTrials$Sign;" ∈ tbl2 := inT_mem (i := 796) (by decide +kernel)
theorem s_X4_324 : Cond.fieldLink RX4 324 "TenTrials$Sign" "MINUS" "LTenTrials$Sign;" ∈ tbl2 := inT_mem (i := 798) (by decide +kernel)
theorem s_X4_306 : Cond.fieldLink RX4 306 "TenTrials$Sign" "LESS" "LTenTrials$Sign;" ∈ tbl2 := inT_mem (i := 800) (by decide +kernel)
theorem s_X4_309 : Cond.fieldLink RX4 309 "TenTrials$Sign" "EQUAL" "LTenTrials$Sign;" ∈ tbl2 := inT_mem (i := 802) (by decide +kernel)
theorem s_X4_312 : Cond.fieldLink RX4 312 "TenTrials$Sign" "MORE" "LTenTrials$Sign;" ∈ tbl2 := inT_mem (i := 804) (by decide +kernel)
theorem s_X4_288 : Cond.fieldLink RX4 288 "TenTrials$Sign" "AND" "LTenTrials$Sign;" ∈ tbl2 := inT_mem (i := 806) (by decide +kernel)
theorem s_X4_278 : Cond.fieldLink RX4 278 "TenTrials$Sign" "OR" "LTenTrials$Sign;" ∈ tbl2 := inT_mem (i := 808) (by decide +kernel)
theorem s_X4_139 : Cond.fieldLink RX4 139 "TenTrials$Sign" "ATHLETE" "LTenTrials$Sign;" ∈ tbl2 := inT_mem (i := 814) (by decide +kernel)
theorem s_X4_145 : Cond.fieldLink RX4 145 "TenTrials$Sign" "MARK" "LTenTrials$Sign;" ∈ tbl2 := inT_mem (i := 827) (by decide +kernel)
theorem s_X4_151 : Cond.fieldLink RX4 151 "TenTrials$Sign" "GAIN" "LTenTrials$Sign;" ∈ tbl2 := inT_mem (i := 838) (by decide +kernel)
theorem s_X4_259 : Cond.fieldLink RX4 259 "TenTrials$Sign" "IN" "LTenTrials$Sign;" ∈ tbl2 := inT_mem (i := 844) (by decide +kernel)
theorem s_X4_60 : Cond.fieldLink RX4 60 "TenTrials$Sign" "SEMICOLON" "LTenTrials$Sign;" ∈ tbl2 := inT_mem (i := 846) (by decide +kernel)
theorem f_X12_297 : FL RX12 297 12 48 1 (.boolean) false := ⟨RX12, TX12, tyX12, rfl, us_X12, tyX12_ok, nmX12, by decide, inT_mem (i := 1338) (by decide +kernel), tyX12_ok 1 (by decide), rfl, rfl⟩
theorem f_X12_300 : FL RX12 300 12 48 2 (.int) false := ⟨RX12, TX12, tyX12, rfl, us_X12, tyX12_ok, nmX12, by decide, inT_mem (i := 1339) (by decide +kernel), tyX12_ok 2 (by decide), rfl, rfl⟩
theorem f_X12_303 : FL RX12 303 12 48 3 (.int) false := ⟨RX12, TX12, tyX12, rfl, us_X12, tyX12_ok, nmX12, by decide, inT_mem (i := 1340) (by decide +kernel), tyX12_ok 3 (by decide), rfl, rfl⟩
theorem f_X12_306 : FL RX12 306 12 48 4 (.int) false := ⟨RX12, TX12, tyX12, rfl, us_X12, tyX12_ok, nmX12, by decide, inT_mem (i := 1341) (by decide +kernel), tyX12_ok 4 (by decide), rfl, rfl⟩
theorem f_X12_309 : FL RX12 309 12 48 5 (.int) false := ⟨RX12, TX12, tyX12, rfl, us_X12, tyX12_ok, nmX12, by decide, inT_mem (i := 1342) (by decide +kernel), tyX12_ok 5 (by decide), rfl, rfl⟩
theorem f_X12_9 : FL RX12 9 12 48 6 (.array .int) true := ⟨RX12, TX12, tyX12, rfl, us_X12, tyX12_ok, nmX12, by decide, inT_mem (i := 1343) (by decide +kernel), tyX12_ok 6 (by decide), rfl, rfl⟩
theorem f_X12_13 : FL RX12 13 12 48 7 (.array .int) true := ⟨RX12, TX12, tyX12, rfl, us_X12, tyX12_ok, nmX12, by decide, inT_mem (i := 1344) (by decide +kernel), tyX12_ok 7 (by decide), rfl, rfl⟩
theorem f_X12_16 : FL RX12 16 12 48 8 (.array .int) true := ⟨RX12, TX12, tyX12, rfl, us_X12, tyX12_ok, nmX12, by decide, inT_mem (i := 1345) (by decide +kernel), tyX12_ok 8 (by decide), rfl, rfl⟩
theorem f_X12_19 : FL RX12 19 12 48 9 (.array .int) true := ⟨RX12, TX12, tyX12, rfl, us_X12, tyX12_ok, nmX12, by decide, inT_mem (i := 1346) (by decide +kernel), tyX12_ok 9 (by decide), rfl, rfl⟩
theorem f_X12_22 : FL RX12 22 12 48 10 (.array .int) true := ⟨RX12, TX12, tyX12, rfl, us_X12, tyX12_ok, nmX12, by decide, inT_mem (i := 1347) (by decide +kernel), tyX12_ok 10 (by decide), rfl, rfl⟩
theorem f_X12_25 : FL RX12 25 12 48 11 (.array .int) true := ⟨RX12, TX12, tyX12, rfl, us_X12, tyX12_ok, nmX12, by decide, inT_mem (i := 1348) (by decide +kernel), tyX12_ok 11 (by decide), rfl, rfl⟩
theorem f_X12_28 : FL RX12 28 12 48 12 (.array .int) true := ⟨RX12, TX12, tyX12, rfl, us_X12, tyX12_ok, nmX12, by decide, inT_mem (i := 1349) (by decide +kernel), tyX12_ok 12 (by decide), rfl, rfl⟩
theorem f_X12_184 : FL RX12 184 12 48 13 (.int) false := ⟨RX12, TX12, tyX12, rfl, us_X12, tyX12_ok, nmX12, by decide, inT_mem (i := 1350) (by decide +kernel), tyX12_ok 13 (by decide), rfl, rfl⟩
theorem f_X12_286 : FL RX12 286 12 48 14 (.int) false := ⟨RX12, TX12, tyX12, rfl, us_X12, tyX12_ok, nmX12, by decide, inT_mem (i := 1351) (by decide +kernel), tyX12_ok 14 (by decide), rfl, rfl⟩
theorem f_X12_255 : FL RX12 255 12 48 15 (.int) false := ⟨RX12, TX12, tyX12, rfl, us_X12, tyX12_ok, nmX12, by decide, inT_mem (i := 1352) (by decide +kernel), tyX12_ok 15 (by decide), rfl, rfl⟩
theorem f_X12_268 : FL RX12 268 12 48 16 (.int) false := ⟨RX12, TX12, tyX12, rfl, us_X12, tyX12_ok, nmX12, by decide, inT_mem (i := 1353) (by decide +kernel), tyX12_ok 16 (by decide), rfl, rfl⟩
theorem f_X12_212 : FL RX12 212 12 48 17 (.int) false := ⟨RX12, TX12, tyX12, rfl, us_X12, tyX12_ok, nmX12, by decide, inT_mem (i := 1354) (by decide +kernel), tyX12_ok 17 (by decide), rfl, rfl⟩
theorem f_X12_260 : FL RX12 260 12 48 18 (.boolean) false := ⟨RX12, TX12, tyX12, rfl, us_X12, tyX12_ok, nmX12, by decide, inT_mem (i := 1355) (by decide +kernel), tyX12_ok 18 (by decide), rfl, rfl⟩
theorem f_X12_31 : FL RX12 31 12 48 19 (.array .int) true := ⟨RX12, TX12, tyX12, rfl, us_X12, tyX12_ok, nmX12, by decide, inT_mem (i := 1356) (by decide +kernel), tyX12_ok 19 (by decide), rfl, rfl⟩
theorem f_X12_34 : FL RX12 34 12 48 20 (.array .int) true := ⟨RX12, TX12, tyX12, rfl, us_X12, tyX12_ok, nmX12, by decide, inT_mem (i := 1357) (by decide +kernel), tyX12_ok 20 (by decide), rfl, rfl⟩
theorem f_X12_37 : FL RX12 37 12 48 21 (.array .int) true := ⟨RX12, TX12, tyX12, rfl, us_X12, tyX12_ok, nmX12, by decide, inT_mem (i := 1358) (by decide +kernel), tyX12_ok 21 (by decide), rfl, rfl⟩
theorem f_X12_40 : FL RX12 40 12 48 22 (.array .int) true := ⟨RX12, TX12, tyX12, rfl, us_X12, tyX12_ok, nmX12, by decide, inT_mem (i := 1359) (by decide +kernel), tyX12_ok 22 (by decide), rfl, rfl⟩
theorem f_X12_43 : FL RX12 43 12 48 23 (.array .int) true := ⟨RX12, TX12, tyX12, rfl, us_X12, tyX12_ok, nmX12, by decide, inT_mem (i := 1360) (by decide +kernel), tyX12_ok 23 (by decide), rfl, rfl⟩
theorem f_X12_46 : FL RX12 46 12 48 24 (.array .int) true := ⟨RX12, TX12, tyX12, rfl, us_X12, tyX12_ok, nmX12, by decide, inT_mem (i := 1361) (by decide +kernel), tyX12_ok 24 (by decide), rfl, rfl⟩
theorem f_X12_49 : FL RX12 49 12 48 25 (.array .int) true := ⟨RX12, TX12, tyX12, rfl, us_X12, tyX12_ok, nmX12, by decide, inT_mem (i := 1362) (by decide +kernel), tyX12_ok 25 (by decide), rfl, rfl⟩
theorem f_X12_52 : FL RX12 52 12 48 26 (.array .byte) true := ⟨RX12, TX12, tyX12, rfl, us_X12, tyX12_ok, nmX12, by decide, inT_mem (i := 1363) (by decide +kernel), tyX12_ok 26 (by decide), rfl, rfl⟩
theorem f_X12_92 : FL RX12 92 12 48 27 (.int) false := ⟨RX12, TX12, tyX12, rfl, us_X12, tyX12_ok, nmX12, by decide, inT_mem (i := 1364) (by decide +kernel), tyX12_ok 27 (by decide), rfl, rfl⟩
theorem f_X12_110 : FL RX12 110 12 48 28 (.int) false := ⟨RX12, TX12, tyX12, rfl, us_X12, tyX12_ok, nmX12, by decide, inT_mem (i := 1365) (by decide +kernel), tyX12_ok 28 (by decide), rfl, rfl⟩
theorem f_X12_113 : FL RX12 113 12 48 29 (.int) false := ⟨RX12, TX12, tyX12, rfl, us_X12, tyX12_ok, nmX12, by decide, inT_mem (i := 1366) (by decide +kernel), tyX12_ok 29 (by decide), rfl, rfl⟩
theorem f_X12_120 : FL RX12 120 12 48 30 (.int) false := ⟨RX12, TX12, tyX12, rfl, us_X12, tyX12_ok, nmX12, by decide, inT_mem (i := 1367) (by decide +kernel), tyX12_ok 30 (by decide), rfl, rfl⟩
theorem f_X12_123 : FL RX12 123 12 48 31 (.int) false := ⟨RX12, TX12, tyX12, rfl, us_X12, tyX12_ok, nmX12, by decide, inT_mem (i := 1368) (by decide +kernel), tyX12_ok 31 (by decide), rfl, rfl⟩
theorem f_X12_134 : FL RX12 134 12 48 32 (.int) false := ⟨RX12, TX12, tyX12, rfl, us_X12, tyX12_ok, nmX12, by decide, inT_mem (i := 1369) (by decide +kernel), tyX12_ok 32 (by decide), rfl, rfl⟩
theorem f_X12_215 : FL RX12 215 12 48 33 (.int) false := ⟨RX12, TX12, tyX12, rfl, us_X12, tyX12_ok, nmX12, by decide, inT_mem (i := 1370) (by decide +kernel), tyX12_ok 33 (by decide), rfl, rfl⟩
theorem f_X12_103 : FL RX12 103 12 48 34 (.int) false := ⟨RX12, TX12, tyX12, rfl, us_X12, tyX12_ok, nmX12, by decide, inT_mem (i := 1371) (by decide +kernel), tyX12_ok 34 (by decide), rfl, rfl⟩
theorem f_X12_56 : FL RX12 56 12 48 35 (.int) false := ⟨RX12, TX12, tyX12, rfl, us_X12, tyX12_ok, nmX12, by decide, inT_mem (i := 1372) (by decide +kernel), tyX12_ok 35 (by decide), rfl, rfl⟩
theorem f_X12_60 : FL RX12 60 12 48 36 (.array .int) true := ⟨RX12, TX12, tyX12, rfl, us_X12, tyX12_ok, nmX12, by decide, inT_mem (i := 1373) (by decide +kernel), tyX12_ok 36 (by decide), rfl, rfl⟩
theorem f_X12_63 : FL RX12 63 12 48 37 (.array .boolean) true := ⟨RX12, TX12, tyX12, rfl, us_X12, tyX12_ok, nmX12, by decide, inT_mem (i := 1374) (by decide +kernel), tyX12_ok 37 (by decide), rfl, rfl⟩
theorem f_X12_67 : FL RX12 67 12 48 38 (.array .long) true := ⟨RX12, TX12, tyX12, rfl, us_X12, tyX12_ok, nmX12, by decide, inT_mem (i := 1375) (by decide +kernel), tyX12_ok 38 (by decide), rfl, rfl⟩
theorem f_X12_71 : FL RX12 71 12 48 39 (.array .int) true := ⟨RX12, TX12, tyX12, rfl, us_X12, tyX12_ok, nmX12, by decide, inT_mem (i := 1376) (by decide +kernel), tyX12_ok 39 (by decide), rfl, rfl⟩
theorem f_X12_74 : FL RX12 74 12 48 40 (.array .int) true := ⟨RX12, TX12, tyX12, rfl, us_X12, tyX12_ok, nmX12, by decide, inT_mem (i := 1377) (by decide +kernel), tyX12_ok 40 (by decide), rfl, rfl⟩
theorem f_X12_77 : FL RX12 77 12 48 41 (.array .int) true := ⟨RX12, TX12, tyX12, rfl, us_X12, tyX12_ok, nmX12, by decide, inT_mem (i := 1378) (by decide +kernel), tyX12_ok 41 (by decide), rfl, rfl⟩
theorem f_X12_80 : FL RX12 80 12 48 42 (.array .int) true := ⟨RX12, TX12, tyX12, rfl, us_X12, tyX12_ok, nmX12, by decide, inT_mem (i := 1379) (by decide +kernel), tyX12_ok 42 (by decide), rfl, rfl⟩
theorem f_X12_464 : FL RX12 464 12 48 43 (.long) false := ⟨RX12, TX12, tyX12, rfl, us_X12, tyX12_ok, nmX12, by decide, inT_mem (i := 1380) (by decide +kernel), tyX12_ok 43 (by decide), rfl, rfl⟩
theorem f_X12_311 : FL RX12 311 12 48 44 (.int) false := ⟨RX12, TX12, tyX12, rfl, us_X12, tyX12_ok, nmX12, by decide, inT_mem (i := 1381) (by decide +kernel), tyX12_ok 44 (by decide), rfl, rfl⟩
theorem f_X12_83 : FL RX12 83 12 48 45 (.array .int) true := ⟨RX12, TX12, tyX12, rfl, us_X12, tyX12_ok, nmX12, by decide, inT_mem (i := 1382) (by decide +kernel), tyX12_ok 45 (by decide), rfl, rfl⟩
theorem f_X12_86 : FL RX12 86 12 48 46 (.array .byte) true := ⟨RX12, TX12, tyX12, rfl, us_X12, tyX12_ok, nmX12, by decide, inT_mem (i := 1383) (by decide +kernel), tyX12_ok 46 (by decide), rfl, rfl⟩
theorem f_X12_314 : FL RX12 314 12 48 47 (.int) false := ⟨RX12, TX12, tyX12, rfl, us_X12, tyX12_ok, nmX12, by decide, inT_mem (i := 1384) (by decide +kernel), tyX12_ok 47 (by decide), rfl, rfl⟩
theorem g_X7_149 : Cond.fieldLink RX7 149 "TenTrials$Sign" "spelling" "Ljava/lang/String;" ∈ tbl2 := inT_mem (i := 1995) (by decide +kernel)
theorem g_J0_9 : Cond.fieldLink RJ0 9 "java/lang/String" "value" "[B" ∈ tbl2 := inT_mem (i := 1996) (by decide +kernel)
theorem g_J0_15 : Cond.fieldLink RJ0 15 "java/lang/String" "coder" "B" ∈ tbl2 := inT_mem (i := 1997) (by decide +kernel)
theorem k__law_9 : LKI R_law 9 mX11_init 0 := ⟨⟨inT_mem (i := 138) (by decide +kernel), inT_mem (i := 114) (by decide +kernel), by decide, by decide, by decide +kernel, by decide⟩, inT_mem (i := 136) (by decide +kernel), rfl, rfl, inT_mem (i := 137) (by decide +kernel)⟩
theorem k_X9_24 : LKS RX9 24 mX7_values 0 := ⟨⟨inT_mem (i := 174) (by decide +kernel), inT_mem (i := 119) (by decide +kernel), by decide, by decide, by decide +kernel, by decide⟩, inT_mem (i := 172) (by decide +kernel), inT_mem (i := 173) (by decide +kernel)⟩
theorem k_X4_24 : LKI RX4 24 mX1_init 0 := ⟨⟨inT_mem (i := 209) (by decide +kernel), inT_mem (i := 120) (by decide +kernel), by decide, by decide, by decide +kernel, by decide⟩, inT_mem (i := 207) (by decide +kernel), rfl, rfl, inT_mem (i := 208) (by decide +kernel)⟩
theorem k_X11_36 : LKI RX11 36 mX1_init 0 := ⟨⟨inT_mem (i := 209) (by decide +kernel), inT_mem (i := 120) (by decide +kernel), by decide, by decide, by decide +kernel, by decide⟩, inT_mem (i := 400) (by decide +kernel), rfl, rfl, inT_mem (i := 208) (by decide +kernel)⟩
theorem k_X11_50 : LKI RX11 50 mX8_init 0 := ⟨⟨inT_mem (i := 453) (by decide +kernel), inT_mem (i := 125) (by decide +kernel), by decide, by decide, by decide +kernel, by decide⟩, inT_mem (i := 451) (by decide +kernel), rfl, rfl, inT_mem (i := 452) (by decide +kernel)⟩
theorem k__law_13 : LKV R_law 13 mX11_feed 5 := ⟨⟨inT_mem (i := 537) (by decide +kernel), inT_mem (i := 114) (by decide +kernel), by decide, by decide, by decide +kernel, by decide⟩, inT_mem (i := 534) (by decide +kernel), inT_mem (i := 535) (by decide +kernel), inT_mem (i := 536) (by decide +kernel)⟩
theorem k_X11_73 : LKV RX11 73 mX11_append 1 := ⟨⟨inT_mem (i := 541) (by decide +kernel), inT_mem (i := 114) (by decide +kernel), by decide, by decide, by decide +kernel, by decide⟩, inT_mem (i := 538) (by decide +kernel), inT_mem (i := 540) (by decide +kernel), inT_mem (i := 0) (by decide +kernel)⟩
theorem k__law_18 : LKV R_law 18 mX11_end 1 := ⟨⟨inT_mem (i := 545) (by decide +kernel), inT_mem (i := 114) (by decide +kernel), by decide, by decide, by decide +kernel, by decide⟩, inT_mem (i := 542) (by decide +kernel), inT_mem (i := 543) (by decide +kernel), inT_mem (i := 544) (by decide +kernel)⟩
theorem k__law_23 : LKV R_law 23 mX11_text 0 := ⟨⟨inT_mem (i := 549) (by decide +kernel), inT_mem (i := 114) (by decide +kernel), by decide, by decide, by decide +kernel, by decide⟩, inT_mem (i := 546) (by decide +kernel), inT_mem (i := 547) (by decide +kernel), inT_mem (i := 548) (by decide +kernel)⟩
theorem k_X11_77 : LKV RX11 77 mX4_readAll 2 := ⟨⟨inT_mem (i := 553) (by decide +kernel), inT_mem (i := 116) (by decide +kernel), by decide, by decide, by decide +kernel, by decide⟩, inT_mem (i := 550) (by decide +kernel), inT_mem (i := 551) (by decide +kernel), inT_mem (i := 552) (by decide +kernel)⟩
theorem k_X4_29 : LKV RX4 29 mX9_split 2 := ⟨⟨inT_mem (i := 557) (by decide +kernel), inT_mem (i := 117) (by decide +kernel), by decide, by decide, by decide +kernel, by decide⟩, inT_mem (i := 554) (by decide +kernel), inT_mem (i := 555) (by decide +kernel), inT_mem (i := 556) (by decide +kernel)⟩
theorem k_X9_35 : LKS RX9 35 mX9_endOf 3 := ⟨⟨inT_mem (i := 560) (by decide +kernel), inT_mem (i := 117) (by decide +kernel), by decide, by decide, by decide +kernel, by decide⟩, inT_mem (i := 558) (by decide +kernel), inT_mem (i := 559) (by decide +kernel)⟩
theorem k_X9_53 : LKS RX9 53 mX9_isLetter 1 := ⟨⟨inT_mem (i := 563) (by decide +kernel), inT_mem (i := 117) (by decide +kernel), by decide, by decide, by decide +kernel, by decide⟩, inT_mem (i := 561) (by decide +kernel), inT_mem (i := 562) (by decide +kernel)⟩
theorem k_X9_57 : LKS RX9 57 mX9_isDigit 1 := ⟨⟨inT_mem (i := 566) (by decide +kernel), inT_mem (i := 117) (by decide +kernel), by decide, by decide, by decide +kernel, by decide⟩, inT_mem (i := 564) (by decide +kernel), inT_mem (i := 565) (by decide +kernel)⟩
theorem k_X9_39 : LKV RX9 39 mX9_add 3 := ⟨⟨inT_mem (i := 570) (by decide +kernel), inT_mem (i := 117) (by decide +kernel), by decide, by decide, by decide +kernel, by decide⟩, inT_mem (i := 567) (by decide +kernel), inT_mem (i := 569) (by decide +kernel), inT_mem (i := 1) (by decide +kernel)⟩
theorem k_X9_63 : LKS RX9 63 mX9_numberOf 3 := ⟨⟨inT_mem (i := 575) (by decide +kernel), inT_mem (i := 117) (by decide +kernel), by decide, by decide, by decide +kernel, by decide⟩, inT_mem (i := 573) (by decide +kernel), inT_mem (i := 574) (by decide +kernel)⟩
theorem k_X9_71 : LM RX9 71 Lib.Math.min.name Lib.Math.min.code 2 .int := ⟨inT_mem (i := 577) (by decide +kernel), inT_mem (i := 578) (by decide +kernel), inT_mem (i := 128) (by decide +kernel), inT_mem (i := 579) (by decide +kernel)⟩
theorem k_X9_66 : LKV RX9 66 mX9_signOf 3 := ⟨⟨inT_mem (i := 583) (by decide +kernel), inT_mem (i := 117) (by decide +kernel), by decide, by decide, by decide +kernel, by decide⟩, inT_mem (i := 580) (by decide +kernel), inT_mem (i := 582) (by decide +kernel), inT_mem (i := 2) (by decide +kernel)⟩
theorem k_X9_74 : LKV RX9 74 mX7_isSpelled 3 := ⟨⟨inT_mem (i := 587) (by decide +kernel), inT_mem (i := 119) (by decide +kernel), by decide, by decide, by decide +kernel, by decide⟩, inT_mem (i := 584) (by decide +kernel), inT_mem (i := 585) (by decide +kernel), inT_mem (i := 586) (by decide +kernel)⟩
theorem k_X7_153 : LKV RX7 153 mJ0_length_8abf5 0 := ⟨⟨inT_mem (i := 591) (by decide +kernel), inT_mem (i := 129) (by decide +kernel), by decide, by decide, by decide +kernel, by decide⟩, inT_mem (i := 588) (by decide +kernel), inT_mem (i := 589) (by decide +kernel), inT_mem (i := 590) (by decide +kernel)⟩
theorem k_J0_335 : LKV RJ0 335 mJ0_coder_7d493 0 := ⟨⟨inT_mem (i := 595) (by decide +kernel), inT_mem (i := 129) (by decide +kernel), by decide, by decide, by decide +kernel, by decide⟩, inT_mem (i := 592) (by decide +kernel), inT_mem (i := 593) (by decide +kernel), inT_mem (i := 594) (by decide +kernel)⟩
theorem k_X7_159 : LKV RX7 159 mJ0_charAt_5068e 1 := ⟨⟨inT_mem (i := 601) (by decide +kernel), inT_mem (i := 129) (by decide +kernel), by decide, by decide, by decide +kernel, by decide⟩, inT_mem (i := 598) (by decide +kernel), inT_mem (i := 599) (by decide +kernel), inT_mem (i := 600) (by decide +kernel)⟩
theorem k_J0_492 : LKV RJ0 492 mJ0_isLatin1_aae02 0 := ⟨⟨inT_mem (i := 605) (by decide +kernel), inT_mem (i := 129) (by decide +kernel), by decide, by decide, by decide +kernel, by decide⟩, inT_mem (i := 602) (by decide +kernel), inT_mem (i := 603) (by decide +kernel), inT_mem (i := 604) (by decide +kernel)⟩
theorem k_J0_495 : LKS RJ0 495 mJ1_charAt_3b067 2 := ⟨⟨inT_mem (i := 608) (by decide +kernel), inT_mem (i := 130) (by decide +kernel), by decide, by decide, by decide +kernel, by decide⟩, inT_mem (i := 606) (by decide +kernel), inT_mem (i := 607) (by decide +kernel)⟩
theorem k_J1_9 : LKS RJ1 9 mJ0_checkIndex_df160 2 := ⟨⟨inT_mem (i := 611) (by decide +kernel), inT_mem (i := 129) (by decide +kernel), by decide, by decide, by decide +kernel, by decide⟩, inT_mem (i := 609) (by decide +kernel), inT_mem (i := 610) (by decide +kernel)⟩
theorem k_J0_1059 : LKS RJ0 1059 mJ3_checkIndex_8e157 3 := ⟨⟨inT_mem (i := 616) (by decide +kernel), inT_mem (i := 131) (by decide +kernel), by decide, by decide, by decide +kernel, by decide⟩, inT_mem (i := 614) (by decide +kernel), inT_mem (i := 615) (by decide +kernel)⟩
theorem k_J0_498 : LKS RJ0 498 mJ2_charAt_3b067 2 := ⟨⟨inT_mem (i := 619) (by decide +kernel), inT_mem (i := 132) (by decide +kernel), by decide, by decide, by decide +kernel, by decide⟩, inT_mem (i := 617) (by decide +kernel), inT_mem (i := 618) (by decide +kernel)⟩
theorem k_J2_67 : LKS RJ2 67 mJ2_checkIndex_2214a 2 := ⟨⟨inT_mem (i := 622) (by decide +kernel), inT_mem (i := 132) (by decide +kernel), by decide, by decide, by decide +kernel, by decide⟩, inT_mem (i := 620) (by decide +kernel), inT_mem (i := 621) (by decide +kernel)⟩
theorem k_J2_48 : LKS RJ2 48 mJ2_length_9d52b 1 := ⟨⟨inT_mem (i := 625) (by decide +kernel), inT_mem (i := 132) (by decide +kernel), by decide, by decide, by decide +kernel, by decide⟩, inT_mem (i := 623) (by decide +kernel), inT_mem (i := 624) (by decide +kernel)⟩
theorem k_J2_414 : LKS RJ2 414 mJ0_checkIndex_df160 2 := ⟨⟨inT_mem (i := 611) (by decide +kernel), inT_mem (i := 129) (by decide +kernel), by decide, by decide, by decide +kernel, by decide⟩, inT_mem (i := 626) (by decide +kernel), inT_mem (i := 610) (by decide +kernel)⟩
theorem k_J2_71 : LKS RJ2 71 mJ2_getChar_3b067 2 := ⟨⟨inT_mem (i := 629) (by decide +kernel), inT_mem (i := 132) (by decide +kernel), by decide, by decide, by decide +kernel, by decide⟩, inT_mem (i := 627) (by decide +kernel), inT_mem (i := 628) (by decide +kernel)⟩
theorem k_X9_43 : LM RX9 43 Lib.Math.max.name Lib.Math.max.code 2 .int := ⟨inT_mem (i := 638) (by decide +kernel), inT_mem (i := 639) (by decide +kernel), inT_mem (i := 128) (by decide +kernel), inT_mem (i := 640) (by decide +kernel)⟩
theorem k_X4_33 : LKV RX4 33 mX1_clear 0 := ⟨⟨inT_mem (i := 646) (by decide +kernel), inT_mem (i := 120) (by decide +kernel), by decide, by decide, by decide +kernel, by decide⟩, inT_mem (i := 643) (by decide +kernel), inT_mem (i := 644) (by decide +kernel), inT_mem (i := 645) (by decide +kernel)⟩
theorem k_X1_45 : LKV RX1 45 mX0_clear 0 := ⟨⟨inT_mem (i := 650) (by decide +kernel), inT_mem (i := 121) (by decide +kernel), by decide, by decide, by decide +kernel, by decide⟩, inT_mem (i := 647) (by decide +kernel), inT_mem (i := 648) (by decide +kernel), inT_mem (i := 649) (by decide +kernel)⟩
theorem k_X4_52 : LKV RX4 52 mX4_sees 1 := ⟨⟨inT_mem (i := 655) (by decide +kernel), inT_mem (i := 116) (by decide +kernel), by decide, by decide, by decide +kernel, by decide⟩, inT_mem (i := 652) (by decide +kernel), inT_mem (i := 654) (by decide +kernel), inT_mem (i := 3) (by decide +kernel)⟩
theorem k_X4_56 : LKV RX4 56 mX4_readLine 0 := ⟨⟨inT_mem (i := 659) (by decide +kernel), inT_mem (i := 116) (by decide +kernel), by decide, by decide, by decide +kernel, by decide⟩, inT_mem (i := 656) (by decide +kernel), inT_mem (i := 658) (by decide +kernel), inT_mem (i := 4) (by decide +kernel)⟩
theorem k_X4_117 : LKV RX4 117 mX4_readEvent 0 := ⟨⟨inT_mem (i := 665) (by decide +kernel), inT_mem (i := 116) (by decide +kernel), by decide, by decide, by decide +kernel, by decide⟩, inT_mem (i := 662) (by decide +kernel), inT_mem (i := 664) (by decide +kernel), inT_mem (i := 5) (by decide +kernel)⟩
theorem k_X4_77 : LKV RX4 77 mX4_advance 0 := ⟨⟨inT_mem (i := 669) (by decide +kernel), inT_mem (i := 116) (by decide +kernel), by decide, by decide, by decide +kernel, by decide⟩, inT_mem (i := 666) (by decide +kernel), inT_mem (i := 668) (by decide +kernel), inT_mem (i := 6) (by decide +kernel)⟩
theorem k_X4_63 : LKV RX4 63 mX4_take 1 := ⟨⟨inT_mem (i := 677) (by decide +kernel), inT_mem (i := 116) (by decide +kernel), by decide, by decide, by decide +kernel, by decide⟩, inT_mem (i := 674) (by decide +kernel), inT_mem (i := 676) (by decide +kernel), inT_mem (i := 7) (by decide +kernel)⟩
theorem k_X4_80 : LKV RX4 80 mX4_refuse 1 := ⟨⟨inT_mem (i := 681) (by decide +kernel), inT_mem (i := 116) (by decide +kernel), by decide, by decide, by decide +kernel, by decide⟩, inT_mem (i := 678) (by decide +kernel), inT_mem (i := 680) (by decide +kernel), inT_mem (i := 8) (by decide +kernel)⟩
theorem k_X4_100 : LKV RX4 100 mX4_takeNumber 2 := ⟨⟨inT_mem (i := 688) (by decide +kernel), inT_mem (i := 116) (by decide +kernel), by decide, by decide, by decide +kernel, by decide⟩, inT_mem (i := 685) (by decide +kernel), inT_mem (i := 687) (by decide +kernel), inT_mem (i := 9) (by decide +kernel)⟩
theorem k_X4_182 : LKV RX4 182 mX4_readTable 1 := ⟨⟨inT_mem (i := 698) (by decide +kernel), inT_mem (i := 116) (by decide +kernel), by decide, by decide, by decide +kernel, by decide⟩, inT_mem (i := 695) (by decide +kernel), inT_mem (i := 697) (by decide +kernel), inT_mem (i := 10) (by decide +kernel)⟩
theorem k_X4_219 : LKV RX4 219 mX4_readTwo 1 := ⟨⟨inT_mem (i := 702) (by decide +kernel), inT_mem (i := 116) (by decide +kernel), by decide, by decide, by decide +kernel, by decide⟩, inT_mem (i := 699) (by decide +kernel), inT_mem (i := 701) (by decide +kernel), inT_mem (i := 11) (by decide +kernel)⟩
theorem k_X4_186 : LKV RX4 186 mX4_readFormula 1 := ⟨⟨inT_mem (i := 710) (by decide +kernel), inT_mem (i := 116) (by decide +kernel), by decide, by decide, by decide +kernel, by decide⟩, inT_mem (i := 707) (by decide +kernel), inT_mem (i := 709) (by decide +kernel), inT_mem (i := 12) (by decide +kernel)⟩
theorem k_X4_123 : LKV RX4 123 mX4_readTie 0 := ⟨⟨inT_mem (i := 726) (by decide +kernel), inT_mem (i := 116) (by decide +kernel), by decide, by decide, by decide +kernel, by decide⟩, inT_mem (i := 723) (by decide +kernel), inT_mem (i := 725) (by decide +kernel), inT_mem (i := 13) (by decide +kernel)⟩
theorem k_X4_136 : LKV RX4 136 mX4_readBonus 0 := ⟨⟨inT_mem (i := 738) (by decide +kernel), inT_mem (i := 116) (by decide +kernel), by decide, by decide, by decide +kernel, by decide⟩, inT_mem (i := 735) (by decide +kernel), inT_mem (i := 737) (by decide +kernel), inT_mem (i := 14) (by decide +kernel)⟩
theorem k_X4_268 : LKV RX4 268 mX4_readTest 1 := ⟨⟨inT_mem (i := 744) (by decide +kernel), inT_mem (i := 116) (by decide +kernel), by decide, by decide, by decide +kernel, by decide⟩, inT_mem (i := 741) (by decide +kernel), inT_mem (i := 743) (by decide +kernel), inT_mem (i := 15) (by decide +kernel)⟩
theorem k_X4_275 : LKV RX4 275 mX4_readSide 1 := ⟨⟨inT_mem (i := 748) (by decide +kernel), inT_mem (i := 116) (by decide +kernel), by decide, by decide, by decide +kernel, by decide⟩, inT_mem (i := 745) (by decide +kernel), inT_mem (i := 747) (by decide +kernel), inT_mem (i := 16) (by decide +kernel)⟩
theorem k_X4_285 : LKV RX4 285 mX4_readFact 1 := ⟨⟨inT_mem (i := 752) (by decide +kernel), inT_mem (i := 116) (by decide +kernel), by decide, by decide, by decide +kernel, by decide⟩, inT_mem (i := 749) (by decide +kernel), inT_mem (i := 751) (by decide +kernel), inT_mem (i := 17) (by decide +kernel)⟩
theorem k_X4_294 : LKV RX4 294 mX4_readNegation 1 := ⟨⟨inT_mem (i := 758) (by decide +kernel), inT_mem (i := 116) (by decide +kernel), by decide, by decide, by decide +kernel, by decide⟩, inT_mem (i := 755) (by decide +kernel), inT_mem (i := 757) (by decide +kernel), inT_mem (i := 18) (by decide +kernel)⟩
theorem k_X4_281 : LKV RX4 281 mX0_emit 2 := ⟨⟨inT_mem (i := 762) (by decide +kernel), inT_mem (i := 121) (by decide +kernel), by decide, by decide, by decide +kernel, by decide⟩, inT_mem (i := 759) (by decide +kernel), inT_mem (i := 760) (by decide +kernel), inT_mem (i := 761) (by decide +kernel)⟩
theorem k_X4_300 : LKV RX4 300 mX4_readBracket 1 := ⟨⟨inT_mem (i := 769) (by decide +kernel), inT_mem (i := 116) (by decide +kernel), by decide, by decide, by decide +kernel, by decide⟩, inT_mem (i := 766) (by decide +kernel), inT_mem (i := 768) (by decide +kernel), inT_mem (i := 19) (by decide +kernel)⟩
theorem k_X4_303 : LKV RX4 303 mX4_readSum 1 := ⟨⟨inT_mem (i := 775) (by decide +kernel), inT_mem (i := 116) (by decide +kernel), by decide, by decide, by decide +kernel, by decide⟩, inT_mem (i := 772) (by decide +kernel), inT_mem (i := 774) (by decide +kernel), inT_mem (i := 20) (by decide +kernel)⟩
theorem k_X4_318 : LKV RX4 318 mX4_readTerm 1 := ⟨⟨inT_mem (i := 779) (by decide +kernel), inT_mem (i := 116) (by decide +kernel), by decide, by decide, by decide +kernel, by decide⟩, inT_mem (i := 776) (by decide +kernel), inT_mem (i := 778) (by decide +kernel), inT_mem (i := 21) (by decide +kernel)⟩
theorem k_X4_336 : LKV RX4 336 mX4_readWord 0 := ⟨⟨inT_mem (i := 789) (by decide +kernel), inT_mem (i := 116) (by decide +kernel), by decide, by decide, by decide +kernel, by decide⟩, inT_mem (i := 786) (by decide +kernel), inT_mem (i := 788) (by decide +kernel), inT_mem (i := 22) (by decide +kernel)⟩
theorem k_X4_271 : LKV RX4 271 mX0_finish 1 := ⟨⟨inT_mem (i := 813) (by decide +kernel), inT_mem (i := 121) (by decide +kernel), by decide, by decide, by decide +kernel, by decide⟩, inT_mem (i := 810) (by decide +kernel), inT_mem (i := 811) (by decide +kernel), inT_mem (i := 812) (by decide +kernel)⟩
theorem k_X4_142 : LKV RX4 142 mX4_readAthlete 0 := ⟨⟨inT_mem (i := 819) (by decide +kernel), inT_mem (i := 116) (by decide +kernel), by decide, by decide, by decide +kernel, by decide⟩, inT_mem (i := 816) (by decide +kernel), inT_mem (i := 818) (by decide +kernel), inT_mem (i := 23) (by decide +kernel)⟩
theorem k_X4_246 : LKV RX4 246 mX1_addAthlete 0 := ⟨⟨inT_mem (i := 823) (by decide +kernel), inT_mem (i := 120) (by decide +kernel), by decide, by decide, by decide +kernel, by decide⟩, inT_mem (i := 820) (by decide +kernel), inT_mem (i := 821) (by decide +kernel), inT_mem (i := 822) (by decide +kernel)⟩
theorem k_X4_148 : LKV RX4 148 mX4_readMark 0 := ⟨⟨inT_mem (i := 832) (by decide +kernel), inT_mem (i := 116) (by decide +kernel), by decide, by decide, by decide +kernel, by decide⟩, inT_mem (i := 829) (by decide +kernel), inT_mem (i := 831) (by decide +kernel), inT_mem (i := 24) (by decide +kernel)⟩
theorem k_X4_250 : LKV RX4 250 mX4_takeCell 0 := ⟨⟨inT_mem (i := 836) (by decide +kernel), inT_mem (i := 116) (by decide +kernel), by decide, by decide, by decide +kernel, by decide⟩, inT_mem (i := 833) (by decide +kernel), inT_mem (i := 835) (by decide +kernel), inT_mem (i := 25) (by decide +kernel)⟩
theorem k_X4_154 : LKV RX4 154 mX4_readGain 0 := ⟨⟨inT_mem (i := 843) (by decide +kernel), inT_mem (i := 116) (by decide +kernel), by decide, by decide, by decide +kernel, by decide⟩, inT_mem (i := 840) (by decide +kernel), inT_mem (i := 842) (by decide +kernel), inT_mem (i := 26) (by decide +kernel)⟩
theorem k_X11_81 : LKV RX11 81 mX4_exchange 1 := ⟨⟨inT_mem (i := 851) (by decide +kernel), inT_mem (i := 116) (by decide +kernel), by decide, by decide, by decide +kernel, by decide⟩, inT_mem (i := 848) (by decide +kernel), inT_mem (i := 849) (by decide +kernel), inT_mem (i := 850) (by decide +kernel)⟩
theorem k_X11_89 : LKV RX11 89 mX2_clear 0 := ⟨⟨inT_mem (i := 855) (by decide +kernel), inT_mem (i := 123) (by decide +kernel), by decide, by decide, by decide +kernel, by decide⟩, inT_mem (i := 852) (by decide +kernel), inT_mem (i := 853) (by decide +kernel), inT_mem (i := 854) (by decide +kernel)⟩
theorem k__law_28 : LKV R_law 28 mX11_fault 1 := ⟨⟨inT_mem (i := 859) (by decide +kernel), inT_mem (i := 114) (by decide +kernel), by decide, by decide, by decide +kernel, by decide⟩, inT_mem (i := 856) (by decide +kernel), inT_mem (i := 857) (by decide +kernel), inT_mem (i := 858) (by decide +kernel)⟩
theorem k__law_32 : LKV R_law 32 mX11_count 1 := ⟨⟨inT_mem (i := 863) (by decide +kernel), inT_mem (i := 114) (by decide +kernel), by decide, by decide, by decide +kernel, by decide⟩, inT_mem (i := 860) (by decide +kernel), inT_mem (i := 861) (by decide +kernel), inT_mem (i := 862) (by decide +kernel)⟩
theorem k__law_36 : LKV R_law 36 mX11_event 2 := ⟨⟨inT_mem (i := 867) (by decide +kernel), inT_mem (i := 114) (by decide +kernel), by decide, by decide, by decide +kernel, by decide⟩, inT_mem (i := 864) (by decide +kernel), inT_mem (i := 865) (by decide +kernel), inT_mem (i := 866) (by decide +kernel)⟩
theorem k_X11_120 : LKV RX11 120 mX11_hasEvent 1 := ⟨⟨inT_mem (i := 871) (by decide +kernel), inT_mem (i := 114) (by decide +kernel), by decide, by decide, by decide +kernel, by decide⟩, inT_mem (i := 868) (by decide +kernel), inT_mem (i := 870) (by decide +kernel), inT_mem (i := 27) (by decide +kernel)⟩
theorem k__law_41 : LKV R_law 41 mX11_points 2 := ⟨⟨inT_mem (i := 875) (by decide +kernel), inT_mem (i := 114) (by decide +kernel), by decide, by decide, by decide +kernel, by decide⟩, inT_mem (i := 872) (by decide +kernel), inT_mem (i := 873) (by decide +kernel), inT_mem (i := 874) (by decide +kernel)⟩
theorem k_X11_151 : LKS RX11 151 mX11_isMark 1 := ⟨⟨inT_mem (i := 878) (by decide +kernel), inT_mem (i := 114) (by decide +kernel), by decide, by decide, by decide +kernel, by decide⟩, inT_mem (i := 876) (by decide +kernel), inT_mem (i := 877) (by decide +kernel)⟩
theorem k_X11_158 : LKS RX11 158 mX11_isWithin 3 := ⟨⟨inT_mem (i := 692) (by decide +kernel), inT_mem (i := 114) (by decide +kernel), by decide, by decide, by decide +kernel, by decide⟩, inT_mem (i := 880) (by decide +kernel), inT_mem (i := 691) (by decide +kernel)⟩
theorem k_X11_154 : LKV RX11 154 mX10_valueOf 1 := ⟨⟨inT_mem (i := 884) (by decide +kernel), inT_mem (i := 122) (by decide +kernel), by decide, by decide, by decide +kernel, by decide⟩, inT_mem (i := 881) (by decide +kernel), inT_mem (i := 882) (by decide +kernel), inT_mem (i := 883) (by decide +kernel)⟩
theorem k_X10_29 : LKV RX10 29 mX10_alongTable 1 := ⟨⟨inT_mem (i := 888) (by decide +kernel), inT_mem (i := 122) (by decide +kernel), by decide, by decide, by decide +kernel, by decide⟩, inT_mem (i := 885) (by decide +kernel), inT_mem (i := 887) (by decide +kernel), inT_mem (i := 28) (by decide +kernel)⟩
theorem k_X10_33 : LKV RX10 33 mX10_alongFormula 1 := ⟨⟨inT_mem (i := 892) (by decide +kernel), inT_mem (i := 122) (by decide +kernel), by decide, by decide, by decide +kernel, by decide⟩, inT_mem (i := 889) (by decide +kernel), inT_mem (i := 891) (by decide +kernel), inT_mem (i := 29) (by decide +kernel)⟩
theorem k_X10_39 : LKS RX10 39 mX10_rootOf 1 := ⟨⟨inT_mem (i := 895) (by decide +kernel), inT_mem (i := 122) (by decide +kernel), by decide, by decide, by decide +kernel, by decide⟩, inT_mem (i := 893) (by decide +kernel), inT_mem (i := 894) (by decide +kernel)⟩
theorem k_X10_47 : LM RX10 47 Lib.MathLoose.min_long.x Lib.MathLoose.min_long.code 4 .long := ⟨inT_mem (i := 897) (by decide +kernel), inT_mem (i := 898) (by decide +kernel), inT_mem (i := 128) (by decide +kernel), inT_mem (i := 899) (by decide +kernel)⟩
theorem k__law_45 : LKV R_law 45 mX11_worst 2 := ⟨⟨inT_mem (i := 903) (by decide +kernel), inT_mem (i := 114) (by decide +kernel), by decide, by decide, by decide +kernel, by decide⟩, inT_mem (i := 900) (by decide +kernel), inT_mem (i := 901) (by decide +kernel), inT_mem (i := 902) (by decide +kernel)⟩
theorem k_X11_162 : LKV RX11 162 mX10_worstFor 1 := ⟨⟨inT_mem (i := 907) (by decide +kernel), inT_mem (i := 122) (by decide +kernel), by decide, by decide, by decide +kernel, by decide⟩, inT_mem (i := 904) (by decide +kernel), inT_mem (i := 905) (by decide +kernel), inT_mem (i := 906) (by decide +kernel)⟩
theorem k_X10_60 : LKV RX10 60 mX10_mostValue 0 := ⟨⟨inT_mem (i := 911) (by decide +kernel), inT_mem (i := 122) (by decide +kernel), by decide, by decide, by decide +kernel, by decide⟩, inT_mem (i := 908) (by decide +kernel), inT_mem (i := 909) (by decide +kernel), inT_mem (i := 910) (by decide +kernel)⟩
theorem k_X10_57 : LKV RX10 57 mX10_valueOf 1 := ⟨⟨inT_mem (i := 884) (by decide +kernel), inT_mem (i := 122) (by decide +kernel), by decide, by decide, by decide +kernel, by decide⟩, inT_mem (i := 913) (by decide +kernel), inT_mem (i := 882) (by decide +kernel), inT_mem (i := 883) (by decide +kernel)⟩
theorem k_X10_64 : LKV RX10 64 mX10_markAt 1 := ⟨⟨inT_mem (i := 917) (by decide +kernel), inT_mem (i := 122) (by decide +kernel), by decide, by decide, by decide +kernel, by decide⟩, inT_mem (i := 914) (by decide +kernel), inT_mem (i := 916) (by decide +kernel), inT_mem (i := 30) (by decide +kernel)⟩
theorem k__law_49 : LKV R_law 49 mX11_top 1 := ⟨⟨inT_mem (i := 921) (by decide +kernel), inT_mem (i := 114) (by decide +kernel), by decide, by decide, by decide +kernel, by decide⟩, inT_mem (i := 918) (by decide +kernel), inT_mem (i := 919) (by decide +kernel), inT_mem (i := 920) (by decide +kernel)⟩
theorem k_X11_165 : LKV RX11 165 mX10_mostValue 0 := ⟨⟨inT_mem (i := 911) (by decide +kernel), inT_mem (i := 122) (by decide +kernel), by decide, by decide, by decide +kernel, by decide⟩, inT_mem (i := 922) (by decide +kernel), inT_mem (i := 909) (by decide +kernel), inT_mem (i := 910) (by decide +kernel)⟩
theorem k__law_53 : LKV R_law 53 mX11_same 3 := ⟨⟨inT_mem (i := 926) (by decide +kernel), inT_mem (i := 114) (by decide +kernel), by decide, by decide, by decide +kernel, by decide⟩, inT_mem (i := 923) (by decide +kernel), inT_mem (i := 924) (by decide +kernel), inT_mem (i := 925) (by decide +kernel)⟩
theorem k__law_58 : LKV R_law 58 mX11_step 2 := ⟨⟨inT_mem (i := 930) (by decide +kernel), inT_mem (i := 114) (by decide +kernel), by decide, by decide, by decide +kernel, by decide⟩, inT_mem (i := 927) (by decide +kernel), inT_mem (i := 928) (by decide +kernel), inT_mem (i := 929) (by decide +kernel)⟩
theorem k_X11_169 : LM RX11 169 Lib.Math.abs.name Lib.Math.abs.code 1 .int := ⟨inT_mem (i := 931) (by decide +kernel), inT_mem (i := 932) (by decide +kernel), inT_mem (i := 128) (by decide +kernel), inT_mem (i := 933) (by decide +kernel)⟩
theorem k__law_62 : LKV R_law 62 mX11_mark 2 := ⟨⟨inT_mem (i := 937) (by decide +kernel), inT_mem (i := 114) (by decide +kernel), by decide, by decide, by decide +kernel, by decide⟩, inT_mem (i := 934) (by decide +kernel), inT_mem (i := 935) (by decide +kernel), inT_mem (i := 936) (by decide +kernel)⟩
theorem k_X11_174 : LKV RX11 174 mX11_hasCell 2 := ⟨⟨inT_mem (i := 941) (by decide +kernel), inT_mem (i := 114) (by decide +kernel), by decide, by decide, by decide +kernel, by decide⟩, inT_mem (i := 938) (by decide +kernel), inT_mem (i := 940) (by decide +kernel), inT_mem (i := 31) (by decide +kernel)⟩
theorem k_X11_184 : LKV RX11 184 mX11_hasAthlete 1 := ⟨⟨inT_mem (i := 945) (by decide +kernel), inT_mem (i := 114) (by decide +kernel), by decide, by decide, by decide +kernel, by decide⟩, inT_mem (i := 942) (by decide +kernel), inT_mem (i := 944) (by decide +kernel), inT_mem (i := 32) (by decide +kernel)⟩
theorem k_X11_178 : LKV RX11 178 mX1_markOf 2 := ⟨⟨inT_mem (i := 949) (by decide +kernel), inT_mem (i := 120) (by decide +kernel), by decide, by decide, by decide +kernel, by decide⟩, inT_mem (i := 946) (by decide +kernel), inT_mem (i := 947) (by decide +kernel), inT_mem (i := 948) (by decide +kernel)⟩
theorem k__law_66 : LKV R_law 66 mX11_worth 2 := ⟨⟨inT_mem (i := 953) (by decide +kernel), inT_mem (i := 114) (by decide +kernel), by decide, by decide, by decide +kernel, by decide⟩, inT_mem (i := 950) (by decide +kernel), inT_mem (i := 951) (by decide +kernel), inT_mem (i := 952) (by decide +kernel)⟩
theorem k_X11_182 : LKV RX11 182 mX1_valueOf 2 := ⟨⟨inT_mem (i := 957) (by decide +kernel), inT_mem (i := 120) (by decide +kernel), by decide, by decide, by decide +kernel, by decide⟩, inT_mem (i := 954) (by decide +kernel), inT_mem (i := 955) (by decide +kernel), inT_mem (i := 956) (by decide +kernel)⟩
theorem k_X1_52 : LKV RX1 52 mX1_markOf 2 := ⟨⟨inT_mem (i := 949) (by decide +kernel), inT_mem (i := 120) (by decide +kernel), by decide, by decide, by decide +kernel, by decide⟩, inT_mem (i := 958) (by decide +kernel), inT_mem (i := 947) (by decide +kernel), inT_mem (i := 948) (by decide +kernel)⟩
theorem k_X1_55 : LKV RX1 55 mX10_valueOf 1 := ⟨⟨inT_mem (i := 884) (by decide +kernel), inT_mem (i := 122) (by decide +kernel), by decide, by decide, by decide +kernel, by decide⟩, inT_mem (i := 959) (by decide +kernel), inT_mem (i := 882) (by decide +kernel), inT_mem (i := 883) (by decide +kernel)⟩
theorem k__law_70 : LKV R_law 70 mX11_of 2 := ⟨⟨inT_mem (i := 963) (by decide +kernel), inT_mem (i := 114) (by decide +kernel), by decide, by decide, by decide +kernel, by decide⟩, inT_mem (i := 960) (by decide +kernel), inT_mem (i := 961) (by decide +kernel), inT_mem (i := 962) (by decide +kernel)⟩
theorem k_X11_187 : LKV RX11 187 mX11_standingsNow 0 := ⟨⟨inT_mem (i := 967) (by decide +kernel), inT_mem (i := 114) (by decide +kernel), by decide, by decide, by decide +kernel, by decide⟩, inT_mem (i := 964) (by decide +kernel), inT_mem (i := 966) (by decide +kernel), inT_mem (i := 33) (by decide +kernel)⟩
theorem k_X11_341 : LKV RX11 341 mX8_read 2 := ⟨⟨inT_mem (i := 971) (by decide +kernel), inT_mem (i := 125) (by decide +kernel), by decide, by decide, by decide +kernel, by decide⟩, inT_mem (i := 968) (by decide +kernel), inT_mem (i := 969) (by decide +kernel), inT_mem (i := 970) (by decide +kernel)⟩
theorem k_X8_37 : LKV RX8 37 mX5_read 3 := ⟨⟨inT_mem (i := 975) (by decide +kernel), inT_mem (i := 124) (by decide +kernel), by decide, by decide, by decide +kernel, by decide⟩, inT_mem (i := 972) (by decide +kernel), inT_mem (i := 973) (by decide +kernel), inT_mem (i := 974) (by decide +kernel)⟩
theorem k_X5_34 : LKV RX5 34 mX10_valueOf 1 := ⟨⟨inT_mem (i := 884) (by decide +kernel), inT_mem (i := 122) (by decide +kernel), by decide, by decide, by decide +kernel, by decide⟩, inT_mem (i := 977) (by decide +kernel), inT_mem (i := 882) (by decide +kernel), inT_mem (i := 883) (by decide +kernel)⟩
theorem k_X5_40 : LKV RX5 40 mX5_reckon 0 := ⟨⟨inT_mem (i := 981) (by decide +kernel), inT_mem (i := 124) (by decide +kernel), by decide, by decide, by decide +kernel, by decide⟩, inT_mem (i := 978) (by decide +kernel), inT_mem (i := 979) (by decide +kernel), inT_mem (i := 980) (by decide +kernel)⟩
theorem k_X5_55 : LM RX5 55 Lib.Math.max.name Lib.Math.max.code 2 .int := ⟨inT_mem (i := 982) (by decide +kernel), inT_mem (i := 639) (by decide +kernel), inT_mem (i := 128) (by decide +kernel), inT_mem (i := 640) (by decide +kernel)⟩
theorem k_X5_60 : LM RX5 60 Lib.Math.min.name Lib.Math.min.code 2 .int := ⟨inT_mem (i := 983) (by decide +kernel), inT_mem (i := 578) (by decide +kernel), inT_mem (i := 128) (by decide +kernel), inT_mem (i := 579) (by decide +kernel)⟩
theorem k_X8_45 : LKV RX8 45 mX0_pay 1 := ⟨⟨inT_mem (i := 987) (by decide +kernel), inT_mem (i := 121) (by decide +kernel), by decide, by decide, by decide +kernel, by decide⟩, inT_mem (i := 984) (by decide +kernel), inT_mem (i := 985) (by decide +kernel), inT_mem (i := 986) (by decide +kernel)⟩
theorem k_X0_59 : LKV RX0 59 mX0_isSo 2 := ⟨⟨inT_mem (i := 991) (by decide +kernel), inT_mem (i := 121) (by decide +kernel), by decide, by decide, by decide +kernel, by decide⟩, inT_mem (i := 988) (by decide +kernel), inT_mem (i := 989) (by decide +kernel), inT_mem (i := 990) (by decide +kernel)⟩
theorem k_X0_38 : LKV RX0 38 mX5_word 2 := ⟨⟨inT_mem (i := 995) (by decide +kernel), inT_mem (i := 124) (by decide +kernel), by decide, by decide, by decide +kernel, by decide⟩, inT_mem (i := 992) (by decide +kernel), inT_mem (i := 993) (by decide +kernel), inT_mem (i := 994) (by decide +kernel)⟩
theorem k_X0_44 : LKV RX0 44 mX0_push 1 := ⟨⟨inT_mem (i := 999) (by decide +kernel), inT_mem (i := 121) (by decide +kernel), by decide, by decide, by decide +kernel, by decide⟩, inT_mem (i := 996) (by decide +kernel), inT_mem (i := 998) (by decide +kernel), inT_mem (i := 34) (by decide +kernel)⟩
theorem k_X0_48 : LKV RX0 48 mX0_pop 0 := ⟨⟨inT_mem (i := 1003) (by decide +kernel), inT_mem (i := 121) (by decide +kernel), by decide, by decide, by decide +kernel, by decide⟩, inT_mem (i := 1000) (by decide +kernel), inT_mem (i := 1002) (by decide +kernel), inT_mem (i := 35) (by decide +kernel)⟩
theorem k_X0_52 : LKS RX0 52 mX0_join 3 := ⟨⟨inT_mem (i := 1006) (by decide +kernel), inT_mem (i := 121) (by decide +kernel), by decide, by decide, by decide +kernel, by decide⟩, inT_mem (i := 1004) (by decide +kernel), inT_mem (i := 1005) (by decide +kernel)⟩
theorem k_X8_51 : LKV RX8 51 mX8_countFirsts 0 := ⟨⟨inT_mem (i := 1010) (by decide +kernel), inT_mem (i := 125) (by decide +kernel), by decide, by decide, by decide +kernel, by decide⟩, inT_mem (i := 1007) (by decide +kernel), inT_mem (i := 1008) (by decide +kernel), inT_mem (i := 1009) (by decide +kernel)⟩
theorem k_X8_104 : LKV RX8 104 mX8_mostIn 1 := ⟨⟨inT_mem (i := 1014) (by decide +kernel), inT_mem (i := 125) (by decide +kernel), by decide, by decide, by decide +kernel, by decide⟩, inT_mem (i := 1011) (by decide +kernel), inT_mem (i := 1012) (by decide +kernel), inT_mem (i := 1013) (by decide +kernel)⟩
theorem k_X8_90 : LM RX8 90 Lib.Math.max.name Lib.Math.max.code 2 .int := ⟨inT_mem (i := 1015) (by decide +kernel), inT_mem (i := 639) (by decide +kernel), inT_mem (i := 128) (by decide +kernel), inT_mem (i := 640) (by decide +kernel)⟩
theorem k__law_74 : LKV R_law 74 mX11_holds 2 := ⟨⟨inT_mem (i := 1019) (by decide +kernel), inT_mem (i := 114) (by decide +kernel), by decide, by decide, by decide +kernel, by decide⟩, inT_mem (i := 1016) (by decide +kernel), inT_mem (i := 1017) (by decide +kernel), inT_mem (i := 1018) (by decide +kernel)⟩
theorem k_X11_213 : LKV RX11 213 mX11_hasBonus 1 := ⟨⟨inT_mem (i := 1023) (by decide +kernel), inT_mem (i := 114) (by decide +kernel), by decide, by decide, by decide +kernel, by decide⟩, inT_mem (i := 1020) (by decide +kernel), inT_mem (i := 1022) (by decide +kernel), inT_mem (i := 36) (by decide +kernel)⟩
theorem k_X11_216 : LKV RX11 216 mX11_scoreNow 1 := ⟨⟨inT_mem (i := 1027) (by decide +kernel), inT_mem (i := 114) (by decide +kernel), by decide, by decide, by decide +kernel, by decide⟩, inT_mem (i := 1024) (by decide +kernel), inT_mem (i := 1026) (by decide +kernel), inT_mem (i := 37) (by decide +kernel)⟩
theorem k_X11_337 : LKV RX11 337 mX5_read 3 := ⟨⟨inT_mem (i := 975) (by decide +kernel), inT_mem (i := 124) (by decide +kernel), by decide, by decide, by decide +kernel, by decide⟩, inT_mem (i := 1028) (by decide +kernel), inT_mem (i := 973) (by decide +kernel), inT_mem (i := 974) (by decide +kernel)⟩
theorem k_X11_220 : LKV RX11 220 mX0_isSo 2 := ⟨⟨inT_mem (i := 991) (by decide +kernel), inT_mem (i := 121) (by decide +kernel), by decide, by decide, by decide +kernel, by decide⟩, inT_mem (i := 1029) (by decide +kernel), inT_mem (i := 989) (by decide +kernel), inT_mem (i := 990) (by decide +kernel)⟩
theorem k__law_78 : LKV R_law 78 mX11_bonus 1 := ⟨⟨inT_mem (i := 1033) (by decide +kernel), inT_mem (i := 114) (by decide +kernel), by decide, by decide, by decide +kernel, by decide⟩, inT_mem (i := 1030) (by decide +kernel), inT_mem (i := 1031) (by decide +kernel), inT_mem (i := 1032) (by decide +kernel)⟩
theorem k__law_82 : LKV R_law 82 mX11_place 1 := ⟨⟨inT_mem (i := 1037) (by decide +kernel), inT_mem (i := 114) (by decide +kernel), by decide, by decide, by decide +kernel, by decide⟩, inT_mem (i := 1034) (by decide +kernel), inT_mem (i := 1035) (by decide +kernel), inT_mem (i := 1036) (by decide +kernel)⟩
theorem k_X11_227 : LKV RX11 227 mX8_athleteAt 1 := ⟨⟨inT_mem (i := 1041) (by decide +kernel), inT_mem (i := 125) (by decide +kernel), by decide, by decide, by decide +kernel, by decide⟩, inT_mem (i := 1038) (by decide +kernel), inT_mem (i := 1039) (by decide +kernel), inT_mem (i := 1040) (by decide +kernel)⟩
theorem k_X8_130 : LKV RX8 130 mX8_placeOf 1 := ⟨⟨inT_mem (i := 1045) (by decide +kernel), inT_mem (i := 125) (by decide +kernel), by decide, by decide, by decide +kernel, by decide⟩, inT_mem (i := 1042) (by decide +kernel), inT_mem (i := 1043) (by decide +kernel), inT_mem (i := 1044) (by decide +kernel)⟩
theorem k_X8_126 : LKV RX8 126 mX8_isAhead 2 := ⟨⟨inT_mem (i := 1049) (by decide +kernel), inT_mem (i := 125) (by decide +kernel), by decide, by decide, by decide +kernel, by decide⟩, inT_mem (i := 1046) (by decide +kernel), inT_mem (i := 1047) (by decide +kernel), inT_mem (i := 1048) (by decide +kernel)⟩
theorem k_X8_120 : LKV RX8 120 mX8_totalOf 1 := ⟨⟨inT_mem (i := 1053) (by decide +kernel), inT_mem (i := 125) (by decide +kernel), by decide, by decide, by decide +kernel, by decide⟩, inT_mem (i := 1050) (by decide +kernel), inT_mem (i := 1051) (by decide +kernel), inT_mem (i := 1052) (by decide +kernel)⟩
theorem k__law_86 : LKV R_law 86 mX11_rank 1 := ⟨⟨inT_mem (i := 1058) (by decide +kernel), inT_mem (i := 114) (by decide +kernel), by decide, by decide, by decide +kernel, by decide⟩, inT_mem (i := 1055) (by decide +kernel), inT_mem (i := 1056) (by decide +kernel), inT_mem (i := 1057) (by decide +kernel)⟩
theorem k_X11_230 : LKV RX11 230 mX8_placeOf 1 := ⟨⟨inT_mem (i := 1045) (by decide +kernel), inT_mem (i := 125) (by decide +kernel), by decide, by decide, by decide +kernel, by decide⟩, inT_mem (i := 1059) (by decide +kernel), inT_mem (i := 1043) (by decide +kernel), inT_mem (i := 1044) (by decide +kernel)⟩
theorem k__law_90 : LKV R_law 90 mX11_leads 1 := ⟨⟨inT_mem (i := 1063) (by decide +kernel), inT_mem (i := 114) (by decide +kernel), by decide, by decide, by decide +kernel, by decide⟩, inT_mem (i := 1060) (by decide +kernel), inT_mem (i := 1061) (by decide +kernel), inT_mem (i := 1062) (by decide +kernel)⟩
theorem k_X11_233 : LKV RX11 233 mX1_athleteByMark 2 := ⟨⟨inT_mem (i := 1067) (by decide +kernel), inT_mem (i := 120) (by decide +kernel), by decide, by decide, by decide +kernel, by decide⟩, inT_mem (i := 1064) (by decide +kernel), inT_mem (i := 1065) (by decide +kernel), inT_mem (i := 1066) (by decide +kernel)⟩
theorem k_X1_66 : LKV RX1 66 mX1_betterThan 2 := ⟨⟨inT_mem (i := 1071) (by decide +kernel), inT_mem (i := 120) (by decide +kernel), by decide, by decide, by decide +kernel, by decide⟩, inT_mem (i := 1068) (by decide +kernel), inT_mem (i := 1070) (by decide +kernel), inT_mem (i := 38) (by decide +kernel)⟩
theorem k_X1_69 : LKV RX1 69 mX10_isBetter 2 := ⟨⟨inT_mem (i := 1075) (by decide +kernel), inT_mem (i := 122) (by decide +kernel), by decide, by decide, by decide +kernel, by decide⟩, inT_mem (i := 1072) (by decide +kernel), inT_mem (i := 1073) (by decide +kernel), inT_mem (i := 1074) (by decide +kernel)⟩
theorem k__law_94 : LKV R_law 94 mX11_dream 0 := ⟨⟨inT_mem (i := 1079) (by decide +kernel), inT_mem (i := 114) (by decide +kernel), by decide, by decide, by decide +kernel, by decide⟩, inT_mem (i := 1076) (by decide +kernel), inT_mem (i := 1077) (by decide +kernel), inT_mem (i := 1078) (by decide +kernel)⟩
theorem k__law_98 : LKV R_law 98 mX11_need 2 := ⟨⟨inT_mem (i := 1083) (by decide +kernel), inT_mem (i := 114) (by decide +kernel), by decide, by decide, by decide +kernel, by decide⟩, inT_mem (i := 1080) (by decide +kernel), inT_mem (i := 1081) (by decide +kernel), inT_mem (i := 1082) (by decide +kernel)⟩
theorem k_X11_237 : LKV RX11 237 mX11_mostInOpen 1 := ⟨⟨inT_mem (i := 1087) (by decide +kernel), inT_mem (i := 114) (by decide +kernel), by decide, by decide, by decide +kernel, by decide⟩, inT_mem (i := 1084) (by decide +kernel), inT_mem (i := 1086) (by decide +kernel), inT_mem (i := 39) (by decide +kernel)⟩
theorem k_X11_354 : LM RX11 354 Lib.Math.min.name Lib.Math.min.code 2 .int := ⟨inT_mem (i := 1088) (by decide +kernel), inT_mem (i := 578) (by decide +kernel), inT_mem (i := 128) (by decide +kernel), inT_mem (i := 579) (by decide +kernel)⟩
theorem k_X11_240 : LKV RX11 240 mX11_putInOpen 3 := ⟨⟨inT_mem (i := 1092) (by decide +kernel), inT_mem (i := 114) (by decide +kernel), by decide, by decide, by decide +kernel, by decide⟩, inT_mem (i := 1089) (by decide +kernel), inT_mem (i := 1091) (by decide +kernel), inT_mem (i := 40) (by decide +kernel)⟩
theorem k_X11_324 : LKV RX11 324 mX5_reckon 0 := ⟨⟨inT_mem (i := 981) (by decide +kernel), inT_mem (i := 124) (by decide +kernel), by decide, by decide, by decide +kernel, by decide⟩, inT_mem (i := 1093) (by decide +kernel), inT_mem (i := 979) (by decide +kernel), inT_mem (i := 980) (by decide +kernel)⟩
theorem k_X11_244 : LKV RX11 244 mX0_comesTo 2 := ⟨⟨inT_mem (i := 1097) (by decide +kernel), inT_mem (i := 121) (by decide +kernel), by decide, by decide, by decide +kernel, by decide⟩, inT_mem (i := 1094) (by decide +kernel), inT_mem (i := 1095) (by decide +kernel), inT_mem (i := 1096) (by decide +kernel)⟩
theorem k_X0_66 : LKV RX0 66 mX0_pay 1 := ⟨⟨inT_mem (i := 987) (by decide +kernel), inT_mem (i := 121) (by decide +kernel), by decide, by decide, by decide +kernel, by decide⟩, inT_mem (i := 1098) (by decide +kernel), inT_mem (i := 985) (by decide +kernel), inT_mem (i := 986) (by decide +kernel)⟩
theorem k__law_102 : LKV R_law 102 mX11_needIn 3 := ⟨⟨inT_mem (i := 1102) (by decide +kernel), inT_mem (i := 114) (by decide +kernel), by decide, by decide, by decide +kernel, by decide⟩, inT_mem (i := 1099) (by decide +kernel), inT_mem (i := 1100) (by decide +kernel), inT_mem (i := 1101) (by decide +kernel)⟩
theorem k_X11_248 : LKV RX11 248 mX5_put 2 := ⟨⟨inT_mem (i := 1106) (by decide +kernel), inT_mem (i := 124) (by decide +kernel), by decide, by decide, by decide +kernel, by decide⟩, inT_mem (i := 1103) (by decide +kernel), inT_mem (i := 1104) (by decide +kernel), inT_mem (i := 1105) (by decide +kernel)⟩
theorem k__law_106 : LKV R_law 106 mX11_pass 3 := ⟨⟨inT_mem (i := 1110) (by decide +kernel), inT_mem (i := 114) (by decide +kernel), by decide, by decide, by decide +kernel, by decide⟩, inT_mem (i := 1107) (by decide +kernel), inT_mem (i := 1108) (by decide +kernel), inT_mem (i := 1109) (by decide +kernel)⟩
theorem k_X11_252 : LKV RX11 252 mX8_totalOf 1 := ⟨⟨inT_mem (i := 1053) (by decide +kernel), inT_mem (i := 125) (by decide +kernel), by decide, by decide, by decide +kernel, by decide⟩, inT_mem (i := 1111) (by decide +kernel), inT_mem (i := 1051) (by decide +kernel), inT_mem (i := 1052) (by decide +kernel)⟩
theorem k_X11_255 : LKV RX11 255 mX11_isAheadNow 2 := ⟨⟨inT_mem (i := 1115) (by decide +kernel), inT_mem (i := 114) (by decide +kernel), by decide, by decide, by decide +kernel, by decide⟩, inT_mem (i := 1112) (by decide +kernel), inT_mem (i := 1114) (by decide +kernel), inT_mem (i := 41) (by decide +kernel)⟩
theorem k_X11_327 : LKV RX11 327 mX0_pay 1 := ⟨⟨inT_mem (i := 987) (by decide +kernel), inT_mem (i := 121) (by decide +kernel), by decide, by decide, by decide +kernel, by decide⟩, inT_mem (i := 1116) (by decide +kernel), inT_mem (i := 985) (by decide +kernel), inT_mem (i := 986) (by decide +kernel)⟩
theorem k_X11_348 : LKV RX11 348 mX8_countFirsts 0 := ⟨⟨inT_mem (i := 1010) (by decide +kernel), inT_mem (i := 125) (by decide +kernel), by decide, by decide, by decide +kernel, by decide⟩, inT_mem (i := 1117) (by decide +kernel), inT_mem (i := 1008) (by decide +kernel), inT_mem (i := 1009) (by decide +kernel)⟩
theorem k_X11_351 : LKV RX11 351 mX8_isAhead 2 := ⟨⟨inT_mem (i := 1049) (by decide +kernel), inT_mem (i := 125) (by decide +kernel), by decide, by decide, by decide +kernel, by decide⟩, inT_mem (i := 1118) (by decide +kernel), inT_mem (i := 1047) (by decide +kernel), inT_mem (i := 1048) (by decide +kernel)⟩
theorem k__law_110 : LKV R_law 110 mX11_trained 3 := ⟨⟨inT_mem (i := 1122) (by decide +kernel), inT_mem (i := 114) (by decide +kernel), by decide, by decide, by decide +kernel, by decide⟩, inT_mem (i := 1119) (by decide +kernel), inT_mem (i := 1120) (by decide +kernel), inT_mem (i := 1121) (by decide +kernel)⟩
theorem k_X11_258 : LKV RX11 258 mX1_markAfter 3 := ⟨⟨inT_mem (i := 1126) (by decide +kernel), inT_mem (i := 120) (by decide +kernel), by decide, by decide, by decide +kernel, by decide⟩, inT_mem (i := 1123) (by decide +kernel), inT_mem (i := 1124) (by decide +kernel), inT_mem (i := 1125) (by decide +kernel)⟩
theorem k_X1_59 : LKV RX1 59 mX10_betterBy 2 := ⟨⟨inT_mem (i := 1130) (by decide +kernel), inT_mem (i := 122) (by decide +kernel), by decide, by decide, by decide +kernel, by decide⟩, inT_mem (i := 1127) (by decide +kernel), inT_mem (i := 1128) (by decide +kernel), inT_mem (i := 1129) (by decide +kernel)⟩
theorem k_X10_67 : LM RX10 67 Lib.Math.min.name Lib.Math.min.code 2 .int := ⟨inT_mem (i := 1131) (by decide +kernel), inT_mem (i := 578) (by decide +kernel), inT_mem (i := 128) (by decide +kernel), inT_mem (i := 579) (by decide +kernel)⟩
theorem k_X10_70 : LM RX10 70 Lib.Math.max.name Lib.Math.max.code 2 .int := ⟨inT_mem (i := 1132) (by decide +kernel), inT_mem (i := 639) (by decide +kernel), inT_mem (i := 128) (by decide +kernel), inT_mem (i := 640) (by decide +kernel)⟩
theorem k__law_114 : LKV R_law 114 mX11_gains 3 := ⟨⟨inT_mem (i := 1136) (by decide +kernel), inT_mem (i := 114) (by decide +kernel), by decide, by decide, by decide +kernel, by decide⟩, inT_mem (i := 1133) (by decide +kernel), inT_mem (i := 1134) (by decide +kernel), inT_mem (i := 1135) (by decide +kernel)⟩
theorem k_X11_262 : LKS RX11 262 mX11_cellOf 2 := ⟨⟨inT_mem (i := 826) (by decide +kernel), inT_mem (i := 114) (by decide +kernel), by decide, by decide, by decide +kernel, by decide⟩, inT_mem (i := 1137) (by decide +kernel), inT_mem (i := 825) (by decide +kernel)⟩
theorem k__law_118 : LKV R_law 118 mX11_pays 2 := ⟨⟨inT_mem (i := 1141) (by decide +kernel), inT_mem (i := 114) (by decide +kernel), by decide, by decide, by decide +kernel, by decide⟩, inT_mem (i := 1138) (by decide +kernel), inT_mem (i := 1139) (by decide +kernel), inT_mem (i := 1140) (by decide +kernel)⟩
theorem k_X11_271 : LKV RX11 271 mX1_valueAfter 3 := ⟨⟨inT_mem (i := 1145) (by decide +kernel), inT_mem (i := 120) (by decide +kernel), by decide, by decide, by decide +kernel, by decide⟩, inT_mem (i := 1142) (by decide +kernel), inT_mem (i := 1143) (by decide +kernel), inT_mem (i := 1144) (by decide +kernel)⟩
theorem k_X1_62 : LKV RX1 62 mX1_markAfter 3 := ⟨⟨inT_mem (i := 1126) (by decide +kernel), inT_mem (i := 120) (by decide +kernel), by decide, by decide, by decide +kernel, by decide⟩, inT_mem (i := 1146) (by decide +kernel), inT_mem (i := 1124) (by decide +kernel), inT_mem (i := 1125) (by decide +kernel)⟩
theorem k__law_122 : LKV R_law 122 mX11_spread 3 := ⟨⟨inT_mem (i := 1150) (by decide +kernel), inT_mem (i := 114) (by decide +kernel), by decide, by decide, by decide +kernel, by decide⟩, inT_mem (i := 1147) (by decide +kernel), inT_mem (i := 1148) (by decide +kernel), inT_mem (i := 1149) (by decide +kernel)⟩
theorem k_X11_274 : LKV RX11 274 mX11_shareByEvent 2 := ⟨⟨inT_mem (i := 1154) (by decide +kernel), inT_mem (i := 114) (by decide +kernel), by decide, by decide, by decide +kernel, by decide⟩, inT_mem (i := 1151) (by decide +kernel), inT_mem (i := 1153) (by decide +kernel), inT_mem (i := 42) (by decide +kernel)⟩
theorem k_X11_361 : LKV RX11 361 mX6_settle 2 := ⟨⟨inT_mem (i := 1158) (by decide +kernel), inT_mem (i := 126) (by decide +kernel), by decide, by decide, by decide +kernel, by decide⟩, inT_mem (i := 1155) (by decide +kernel), inT_mem (i := 1156) (by decide +kernel), inT_mem (i := 1157) (by decide +kernel)⟩
theorem k_X6_23 : LKV RX6 23 mX6_bestFrom 2 := ⟨⟨inT_mem (i := 1162) (by decide +kernel), inT_mem (i := 126) (by decide +kernel), by decide, by decide, by decide +kernel, by decide⟩, inT_mem (i := 1159) (by decide +kernel), inT_mem (i := 1161) (by decide +kernel), inT_mem (i := 43) (by decide +kernel)⟩
theorem k_X6_27 : LM RX6 27 Lib.Math.max.name Lib.Math.max.code 2 .int := ⟨inT_mem (i := 1163) (by decide +kernel), inT_mem (i := 639) (by decide +kernel), inT_mem (i := 128) (by decide +kernel), inT_mem (i := 640) (by decide +kernel)⟩
theorem k_X11_277 : LKV RX11 277 mX6_mostFor 1 := ⟨⟨inT_mem (i := 1167) (by decide +kernel), inT_mem (i := 126) (by decide +kernel), by decide, by decide, by decide +kernel, by decide⟩, inT_mem (i := 1164) (by decide +kernel), inT_mem (i := 1165) (by decide +kernel), inT_mem (i := 1166) (by decide +kernel)⟩
theorem k_X11_280 : LKV RX11 280 mX6_shareOf 2 := ⟨⟨inT_mem (i := 1171) (by decide +kernel), inT_mem (i := 126) (by decide +kernel), by decide, by decide, by decide +kernel, by decide⟩, inT_mem (i := 1168) (by decide +kernel), inT_mem (i := 1169) (by decide +kernel), inT_mem (i := 1170) (by decide +kernel)⟩
theorem k_X6_32 : LKV RX6 32 mX6_fewestFor 2 := ⟨⟨inT_mem (i := 1175) (by decide +kernel), inT_mem (i := 126) (by decide +kernel), by decide, by decide, by decide +kernel, by decide⟩, inT_mem (i := 1172) (by decide +kernel), inT_mem (i := 1174) (by decide +kernel), inT_mem (i := 44) (by decide +kernel)⟩
theorem k__law_126 : LKV R_law 126 mX11_hours 2 := ⟨⟨inT_mem (i := 1179) (by decide +kernel), inT_mem (i := 114) (by decide +kernel), by decide, by decide, by decide +kernel, by decide⟩, inT_mem (i := 1176) (by decide +kernel), inT_mem (i := 1177) (by decide +kernel), inT_mem (i := 1178) (by decide +kernel)⟩
theorem k__law_130 : LKV R_law 130 mX11_meet 2 := ⟨⟨inT_mem (i := 1183) (by decide +kernel), inT_mem (i := 114) (by decide +kernel), by decide, by decide, by decide +kernel, by decide⟩, inT_mem (i := 1180) (by decide +kernel), inT_mem (i := 1181) (by decide +kernel), inT_mem (i := 1182) (by decide +kernel)⟩
theorem k_X11_283 : LKV RX11 283 mX11_standingsBy 1 := ⟨⟨inT_mem (i := 1187) (by decide +kernel), inT_mem (i := 114) (by decide +kernel), by decide, by decide, by decide +kernel, by decide⟩, inT_mem (i := 1184) (by decide +kernel), inT_mem (i := 1186) (by decide +kernel), inT_mem (i := 45) (by decide +kernel)⟩
theorem k_X11_344 : LKV RX11 344 mX8_readDrawn 2 := ⟨⟨inT_mem (i := 1191) (by decide +kernel), inT_mem (i := 125) (by decide +kernel), by decide, by decide, by decide +kernel, by decide⟩, inT_mem (i := 1188) (by decide +kernel), inT_mem (i := 1189) (by decide +kernel), inT_mem (i := 1190) (by decide +kernel)⟩
theorem k_X8_58 : LKV RX8 58 mX1_markOf 2 := ⟨⟨inT_mem (i := 949) (by decide +kernel), inT_mem (i := 120) (by decide +kernel), by decide, by decide, by decide +kernel, by decide⟩, inT_mem (i := 1192) (by decide +kernel), inT_mem (i := 947) (by decide +kernel), inT_mem (i := 948) (by decide +kernel)⟩
theorem k_X8_74 : LKV RX8 74 mX8_swung 2 := ⟨⟨inT_mem (i := 1197) (by decide +kernel), inT_mem (i := 125) (by decide +kernel), by decide, by decide, by decide +kernel, by decide⟩, inT_mem (i := 1194) (by decide +kernel), inT_mem (i := 1196) (by decide +kernel), inT_mem (i := 46) (by decide +kernel)⟩
theorem k_X8_80 : LKV RX8 80 mX8_draw 1 := ⟨⟨inT_mem (i := 1201) (by decide +kernel), inT_mem (i := 125) (by decide +kernel), by decide, by decide, by decide +kernel, by decide⟩, inT_mem (i := 1198) (by decide +kernel), inT_mem (i := 1200) (by decide +kernel), inT_mem (i := 47) (by decide +kernel)⟩
theorem k_X8_85 : LM RX8 85 Lib.Math.min.name Lib.Math.min.code 2 .int := ⟨inT_mem (i := 1207) (by decide +kernel), inT_mem (i := 578) (by decide +kernel), inT_mem (i := 128) (by decide +kernel), inT_mem (i := 579) (by decide +kernel)⟩
theorem k_X8_77 : LKV RX8 77 mX8_read 2 := ⟨⟨inT_mem (i := 971) (by decide +kernel), inT_mem (i := 125) (by decide +kernel), by decide, by decide, by decide +kernel, by decide⟩, inT_mem (i := 1208) (by decide +kernel), inT_mem (i := 969) (by decide +kernel), inT_mem (i := 970) (by decide +kernel)⟩
theorem k__law_134 : LKV R_law 134 mX11_met 2 := ⟨⟨inT_mem (i := 1212) (by decide +kernel), inT_mem (i := 114) (by decide +kernel), by decide, by decide, by decide +kernel, by decide⟩, inT_mem (i := 1209) (by decide +kernel), inT_mem (i := 1210) (by decide +kernel), inT_mem (i := 1211) (by decide +kernel)⟩
theorem k__law_138 : LKV R_law 138 mX11_odds 3 := ⟨⟨inT_mem (i := 1216) (by decide +kernel), inT_mem (i := 114) (by decide +kernel), by decide, by decide, by decide +kernel, by decide⟩, inT_mem (i := 1213) (by decide +kernel), inT_mem (i := 1214) (by decide +kernel), inT_mem (i := 1215) (by decide +kernel)⟩
theorem k__law_142 : LKV R_law 142 mX11_sets 3 := ⟨⟨inT_mem (i := 1221) (by decide +kernel), inT_mem (i := 114) (by decide +kernel), by decide, by decide, by decide +kernel, by decide⟩, inT_mem (i := 1218) (by decide +kernel), inT_mem (i := 1219) (by decide +kernel), inT_mem (i := 1220) (by decide +kernel)⟩
theorem k_X11_288 : LKV RX11 288 mX11_changeMark 2 := ⟨⟨inT_mem (i := 1225) (by decide +kernel), inT_mem (i := 114) (by decide +kernel), by decide, by decide, by decide +kernel, by decide⟩, inT_mem (i := 1222) (by decide +kernel), inT_mem (i := 1224) (by decide +kernel), inT_mem (i := 48) (by decide +kernel)⟩
theorem k_X11_291 : LKV RX11 291 mX2_note 4 := ⟨⟨inT_mem (i := 1229) (by decide +kernel), inT_mem (i := 123) (by decide +kernel), by decide, by decide, by decide +kernel, by decide⟩, inT_mem (i := 1226) (by decide +kernel), inT_mem (i := 1227) (by decide +kernel), inT_mem (i := 1228) (by decide +kernel)⟩
theorem k_X2_28 : LKV RX2 28 mX2_forgetOldest 0 := ⟨⟨inT_mem (i := 1233) (by decide +kernel), inT_mem (i := 123) (by decide +kernel), by decide, by decide, by decide +kernel, by decide⟩, inT_mem (i := 1230) (by decide +kernel), inT_mem (i := 1232) (by decide +kernel), inT_mem (i := 49) (by decide +kernel)⟩
theorem k__law_146 : LKV R_law 146 mX11_athlete 0 := ⟨⟨inT_mem (i := 1240) (by decide +kernel), inT_mem (i := 114) (by decide +kernel), by decide, by decide, by decide +kernel, by decide⟩, inT_mem (i := 1237) (by decide +kernel), inT_mem (i := 1238) (by decide +kernel), inT_mem (i := 1239) (by decide +kernel)⟩
theorem k_X11_295 : LKV RX11 295 mX1_addAthlete 0 := ⟨⟨inT_mem (i := 823) (by decide +kernel), inT_mem (i := 120) (by decide +kernel), by decide, by decide, by decide +kernel, by decide⟩, inT_mem (i := 1241) (by decide +kernel), inT_mem (i := 821) (by decide +kernel), inT_mem (i := 822) (by decide +kernel)⟩
theorem k__law_150 : LKV R_law 150 mX11_gain 4 := ⟨⟨inT_mem (i := 1245) (by decide +kernel), inT_mem (i := 114) (by decide +kernel), by decide, by decide, by decide +kernel, by decide⟩, inT_mem (i := 1242) (by decide +kernel), inT_mem (i := 1243) (by decide +kernel), inT_mem (i := 1244) (by decide +kernel)⟩
theorem k__law_155 : LKV R_law 155 mX11_trains 3 := ⟨⟨inT_mem (i := 1249) (by decide +kernel), inT_mem (i := 114) (by decide +kernel), by decide, by decide, by decide +kernel, by decide⟩, inT_mem (i := 1246) (by decide +kernel), inT_mem (i := 1247) (by decide +kernel), inT_mem (i := 1248) (by decide +kernel)⟩
theorem k__law_159 : LKV R_law 159 mX11_tie 1 := ⟨⟨inT_mem (i := 1253) (by decide +kernel), inT_mem (i := 114) (by decide +kernel), by decide, by decide, by decide +kernel, by decide⟩, inT_mem (i := 1250) (by decide +kernel), inT_mem (i := 1251) (by decide +kernel), inT_mem (i := 1252) (by decide +kernel)⟩
theorem k__law_163 : LKV R_law 163 mX11_undo 0 := ⟨⟨inT_mem (i := 1257) (by decide +kernel), inT_mem (i := 114) (by decide +kernel), by decide, by decide, by decide +kernel, by decide⟩, inT_mem (i := 1254) (by decide +kernel), inT_mem (i := 1255) (by decide +kernel), inT_mem (i := 1256) (by decide +kernel)⟩
theorem k_X11_298 : LKV RX11 298 mX2_takeBack 1 := ⟨⟨inT_mem (i := 1261) (by decide +kernel), inT_mem (i := 123) (by decide +kernel), by decide, by decide, by decide +kernel, by decide⟩, inT_mem (i := 1258) (by decide +kernel), inT_mem (i := 1259) (by decide +kernel), inT_mem (i := 1260) (by decide +kernel)⟩
theorem k__law_167 : LKV R_law 167 mX11_tell 0 := ⟨⟨inT_mem (i := 1265) (by decide +kernel), inT_mem (i := 114) (by decide +kernel), by decide, by decide, by decide +kernel, by decide⟩, inT_mem (i := 1262) (by decide +kernel), inT_mem (i := 1263) (by decide +kernel), inT_mem (i := 1264) (by decide +kernel)⟩
theorem k_X11_302 : LKV RX11 302 mX3_clear 0 := ⟨⟨inT_mem (i := 1269) (by decide +kernel), inT_mem (i := 115) (by decide +kernel), by decide, by decide, by decide +kernel, by decide⟩, inT_mem (i := 1266) (by decide +kernel), inT_mem (i := 1267) (by decide +kernel), inT_mem (i := 1268) (by decide +kernel)⟩
theorem k_X11_303 : LKV RX11 303 mX3_putNumber 1 := ⟨⟨inT_mem (i := 1273) (by decide +kernel), inT_mem (i := 115) (by decide +kernel), by decide, by decide, by decide +kernel, by decide⟩, inT_mem (i := 1270) (by decide +kernel), inT_mem (i := 1271) (by decide +kernel), inT_mem (i := 1272) (by decide +kernel)⟩
theorem k_X3_17 : LKV RX3 17 mX3_put 1 := ⟨⟨inT_mem (i := 1277) (by decide +kernel), inT_mem (i := 115) (by decide +kernel), by decide, by decide, by decide +kernel, by decide⟩, inT_mem (i := 1274) (by decide +kernel), inT_mem (i := 1275) (by decide +kernel), inT_mem (i := 1276) (by decide +kernel)⟩
theorem k_X11_306 : LKV RX11 306 mX3_put 1 := ⟨⟨inT_mem (i := 1277) (by decide +kernel), inT_mem (i := 115) (by decide +kernel), by decide, by decide, by decide +kernel, by decide⟩, inT_mem (i := 1278) (by decide +kernel), inT_mem (i := 1275) (by decide +kernel), inT_mem (i := 1276) (by decide +kernel)⟩
theorem k__law_171 : LKV R_law 171 mX11_card 1 := ⟨⟨inT_mem (i := 1282) (by decide +kernel), inT_mem (i := 114) (by decide +kernel), by decide, by decide, by decide +kernel, by decide⟩, inT_mem (i := 1279) (by decide +kernel), inT_mem (i := 1280) (by decide +kernel), inT_mem (i := 1281) (by decide +kernel)⟩
theorem k__law_175 : LKV R_law 175 mX11_octet 1 := ⟨⟨inT_mem (i := 1286) (by decide +kernel), inT_mem (i := 114) (by decide +kernel), by decide, by decide, by decide +kernel, by decide⟩, inT_mem (i := 1283) (by decide +kernel), inT_mem (i := 1284) (by decide +kernel), inT_mem (i := 1285) (by decide +kernel)⟩
theorem k__law_179 : LKV R_law 179 mX11_kth 2 := ⟨⟨inT_mem (i := 1290) (by decide +kernel), inT_mem (i := 114) (by decide +kernel), by decide, by decide, by decide +kernel, by decide⟩, inT_mem (i := 1287) (by decide +kernel), inT_mem (i := 1288) (by decide +kernel), inT_mem (i := 1289) (by decide +kernel)⟩
theorem k__law_183 : LKV R_law 183 mX11_behind 1 := ⟨⟨inT_mem (i := 1294) (by decide +kernel), inT_mem (i := 114) (by decide +kernel), by decide, by decide, by decide +kernel, by decide⟩, inT_mem (i := 1291) (by decide +kernel), inT_mem (i := 1292) (by decide +kernel), inT_mem (i := 1293) (by decide +kernel)⟩
theorem k_X11_311 : LKV RX11 311 mX8_mostIn 1 := ⟨⟨inT_mem (i := 1014) (by decide +kernel), inT_mem (i := 125) (by decide +kernel), by decide, by decide, by decide +kernel, by decide⟩, inT_mem (i := 1295) (by decide +kernel), inT_mem (i := 1012) (by decide +kernel), inT_mem (i := 1013) (by decide +kernel)⟩
theorem k__law_187 : LKV R_law 187 mX11_hour 3 := ⟨⟨inT_mem (i := 1299) (by decide +kernel), inT_mem (i := 114) (by decide +kernel), by decide, by decide, by decide +kernel, by decide⟩, inT_mem (i := 1296) (by decide +kernel), inT_mem (i := 1297) (by decide +kernel), inT_mem (i := 1298) (by decide +kernel)⟩
theorem k__law_191 : LKV R_law 191 mX11_squad 2 := ⟨⟨inT_mem (i := 1303) (by decide +kernel), inT_mem (i := 114) (by decide +kernel), by decide, by decide, by decide +kernel, by decide⟩, inT_mem (i := 1300) (by decide +kernel), inT_mem (i := 1301) (by decide +kernel), inT_mem (i := 1302) (by decide +kernel)⟩
theorem k_X11_317 : LKV RX11 317 mX11_shareByAthlete 1 := ⟨⟨inT_mem (i := 1307) (by decide +kernel), inT_mem (i := 114) (by decide +kernel), by decide, by decide, by decide +kernel, by decide⟩, inT_mem (i := 1304) (by decide +kernel), inT_mem (i := 1306) (by decide +kernel), inT_mem (i := 50) (by decide +kernel)⟩
theorem k__law_195 : LKV R_law 195 mX11_close 0 := ⟨⟨inT_mem (i := 1311) (by decide +kernel), inT_mem (i := 114) (by decide +kernel), by decide, by decide, by decide +kernel, by decide⟩, inT_mem (i := 1308) (by decide +kernel), inT_mem (i := 1309) (by decide +kernel), inT_mem (i := 1310) (by decide +kernel)⟩
theorem k__law_199 : LKV R_law 199 mX11_team 1 := ⟨⟨inT_mem (i := 1315) (by decide +kernel), inT_mem (i := 114) (by decide +kernel), by decide, by decide, by decide +kernel, by decide⟩, inT_mem (i := 1312) (by decide +kernel), inT_mem (i := 1313) (by decide +kernel), inT_mem (i := 1314) (by decide +kernel)⟩
theorem k__law_203 : LKV R_law 203 mX11_kinds 3 := ⟨⟨inT_mem (i := 1319) (by decide +kernel), inT_mem (i := 114) (by decide +kernel), by decide, by decide, by decide +kernel, by decide⟩, inT_mem (i := 1316) (by decide +kernel), inT_mem (i := 1317) (by decide +kernel), inT_mem (i := 1318) (by decide +kernel)⟩
theorem k__law_207 : LKV R_law 207 mX11_lent 3 := ⟨⟨inT_mem (i := 1323) (by decide +kernel), inT_mem (i := 114) (by decide +kernel), by decide, by decide, by decide +kernel, by decide⟩, inT_mem (i := 1320) (by decide +kernel), inT_mem (i := 1321) (by decide +kernel), inT_mem (i := 1322) (by decide +kernel)⟩
theorem k__law_211 : LKV R_law 211 mX11_even 1 := ⟨⟨inT_mem (i := 1327) (by decide +kernel), inT_mem (i := 114) (by decide +kernel), by decide, by decide, by decide +kernel, by decide⟩, inT_mem (i := 1324) (by decide +kernel), inT_mem (i := 1325) (by decide +kernel), inT_mem (i := 1326) (by decide +kernel)⟩
theorem k_X11_331 : LKV RX11 331 mX11_sumOfTops 1 := ⟨⟨inT_mem (i := 1331) (by decide +kernel), inT_mem (i := 114) (by decide +kernel), by decide, by decide, by decide +kernel, by decide⟩, inT_mem (i := 1328) (by decide +kernel), inT_mem (i := 1330) (by decide +kernel), inT_mem (i := 51) (by decide +kernel)⟩
theorem k__law_12 : LKI R_law 12 mX12_init 0 := ⟨⟨inT_mem (i := 1336) (by decide +kernel), inT_mem (i := 127) (by decide +kernel), by decide, by decide, by decide +kernel, by decide⟩, inT_mem (i := 1334) (by decide +kernel), rfl, rfl, inT_mem (i := 1335) (by decide +kernel)⟩
theorem k__law_17 : LKV R_law 17 mX12_feed 5 := ⟨⟨inT_mem (i := 1486) (by decide +kernel), inT_mem (i := 127) (by decide +kernel), by decide, by decide, by decide +kernel, by decide⟩, inT_mem (i := 1483) (by decide +kernel), inT_mem (i := 1484) (by decide +kernel), inT_mem (i := 1485) (by decide +kernel)⟩
theorem k_X12_95 : LKV RX12 95 mX12_puts4 1 := ⟨⟨inT_mem (i := 1490) (by decide +kernel), inT_mem (i := 127) (by decide +kernel), by decide, by decide, by decide +kernel, by decide⟩, inT_mem (i := 1487) (by decide +kernel), inT_mem (i := 1489) (by decide +kernel), inT_mem (i := 52) (by decide +kernel)⟩
theorem k__law_22 : LKV R_law 22 mX12_end 1 := ⟨⟨inT_mem (i := 1494) (by decide +kernel), inT_mem (i := 127) (by decide +kernel), by decide, by decide, by decide +kernel, by decide⟩, inT_mem (i := 1491) (by decide +kernel), inT_mem (i := 1492) (by decide +kernel), inT_mem (i := 1493) (by decide +kernel)⟩
theorem k_X12_99 : LKS RX12 99 mX12_in 3 := ⟨⟨inT_mem (i := 1497) (by decide +kernel), inT_mem (i := 127) (by decide +kernel), by decide, by decide, by decide +kernel, by decide⟩, inT_mem (i := 1495) (by decide +kernel), inT_mem (i := 1496) (by decide +kernel)⟩
theorem k__law_27 : LKV R_law 27 mX12_text 0 := ⟨⟨inT_mem (i := 1501) (by decide +kernel), inT_mem (i := 127) (by decide +kernel), by decide, by decide, by decide +kernel, by decide⟩, inT_mem (i := 1498) (by decide +kernel), inT_mem (i := 1499) (by decide +kernel), inT_mem (i := 1500) (by decide +kernel)⟩
theorem k_X12_158 : LKV RX12 158 mX12_advance 0 := ⟨⟨inT_mem (i := 1505) (by decide +kernel), inT_mem (i := 127) (by decide +kernel), by decide, by decide, by decide +kernel, by decide⟩, inT_mem (i := 1502) (by decide +kernel), inT_mem (i := 1504) (by decide +kernel), inT_mem (i := 53) (by decide +kernel)⟩
theorem k_X12_116 : LKV RX12 116 mX12_see 1 := ⟨⟨inT_mem (i := 1509) (by decide +kernel), inT_mem (i := 127) (by decide +kernel), by decide, by decide, by decide +kernel, by decide⟩, inT_mem (i := 1506) (by decide +kernel), inT_mem (i := 1508) (by decide +kernel), inT_mem (i := 54) (by decide +kernel)⟩
theorem k_X12_138 : LM RX12 138 Lib.Math.min.name Lib.Math.min.code 2 .int := ⟨inT_mem (i := 1515) (by decide +kernel), inT_mem (i := 578) (by decide +kernel), inT_mem (i := 128) (by decide +kernel), inT_mem (i := 579) (by decide +kernel)⟩
theorem k_X12_106 : LKV RX12 106 mX12_good 0 := ⟨⟨inT_mem (i := 1519) (by decide +kernel), inT_mem (i := 127) (by decide +kernel), by decide, by decide, by decide +kernel, by decide⟩, inT_mem (i := 1516) (by decide +kernel), inT_mem (i := 1518) (by decide +kernel), inT_mem (i := 55) (by decide +kernel)⟩
theorem k_X12_294 : LKV RX12 294 mX12_readLine 0 := ⟨⟨inT_mem (i := 1523) (by decide +kernel), inT_mem (i := 127) (by decide +kernel), by decide, by decide, by decide +kernel, by decide⟩, inT_mem (i := 1520) (by decide +kernel), inT_mem (i := 1522) (by decide +kernel), inT_mem (i := 56) (by decide +kernel)⟩
theorem k_X12_154 : LKV RX12 154 mX12_isWord 1 := ⟨⟨inT_mem (i := 1528) (by decide +kernel), inT_mem (i := 127) (by decide +kernel), by decide, by decide, by decide +kernel, by decide⟩, inT_mem (i := 1525) (by decide +kernel), inT_mem (i := 1527) (by decide +kernel), inT_mem (i := 57) (by decide +kernel)⟩
theorem k_X12_144 : LKV RX12 144 mJ0_length_8abf5 0 := ⟨⟨inT_mem (i := 591) (by decide +kernel), inT_mem (i := 129) (by decide +kernel), by decide, by decide, by decide +kernel, by decide⟩, inT_mem (i := 1529) (by decide +kernel), inT_mem (i := 589) (by decide +kernel), inT_mem (i := 590) (by decide +kernel)⟩
theorem k_X12_150 : LKV RX12 150 mJ0_charAt_5068e 1 := ⟨⟨inT_mem (i := 601) (by decide +kernel), inT_mem (i := 129) (by decide +kernel), by decide, by decide, by decide +kernel, by decide⟩, inT_mem (i := 1530) (by decide +kernel), inT_mem (i := 599) (by decide +kernel), inT_mem (i := 600) (by decide +kernel)⟩
theorem k_X12_272 : LKV RX12 272 mX12_readEvent 0 := ⟨⟨inT_mem (i := 1534) (by decide +kernel), inT_mem (i := 127) (by decide +kernel), by decide, by decide, by decide +kernel, by decide⟩, inT_mem (i := 1531) (by decide +kernel), inT_mem (i := 1533) (by decide +kernel), inT_mem (i := 58) (by decide +kernel)⟩
theorem k_X12_168 : LKV RX12 168 mX12_errs 2 := ⟨⟨inT_mem (i := 1538) (by decide +kernel), inT_mem (i := 127) (by decide +kernel), by decide, by decide, by decide +kernel, by decide⟩, inT_mem (i := 1535) (by decide +kernel), inT_mem (i := 1537) (by decide +kernel), inT_mem (i := 59) (by decide +kernel)⟩
theorem k_X12_193 : LKV RX12 193 mX12_passes 1 := ⟨⟨inT_mem (i := 1545) (by decide +kernel), inT_mem (i := 127) (by decide +kernel), by decide, by decide, by decide +kernel, by decide⟩, inT_mem (i := 1542) (by decide +kernel), inT_mem (i := 1544) (by decide +kernel), inT_mem (i := 60) (by decide +kernel)⟩
theorem k_X12_165 : LKV RX12 165 mX12_eats 1 := ⟨⟨inT_mem (i := 1549) (by decide +kernel), inT_mem (i := 127) (by decide +kernel), by decide, by decide, by decide +kernel, by decide⟩, inT_mem (i := 1546) (by decide +kernel), inT_mem (i := 1548) (by decide +kernel), inT_mem (i := 61) (by decide +kernel)⟩
theorem k_X12_178 : LKV RX12 178 mX12_number 2 := ⟨⟨inT_mem (i := 1554) (by decide +kernel), inT_mem (i := 127) (by decide +kernel), by decide, by decide, by decide +kernel, by decide⟩, inT_mem (i := 1551) (by decide +kernel), inT_mem (i := 1553) (by decide +kernel), inT_mem (i := 62) (by decide +kernel)⟩
theorem k_X12_205 : LKV RX12 205 mX12_readTable 1 := ⟨⟨inT_mem (i := 1562) (by decide +kernel), inT_mem (i := 127) (by decide +kernel), by decide, by decide, by decide +kernel, by decide⟩, inT_mem (i := 1559) (by decide +kernel), inT_mem (i := 1561) (by decide +kernel), inT_mem (i := 63) (by decide +kernel)⟩
theorem k_X12_181 : LKV RX12 181 mX12_passesByte 1 := ⟨⟨inT_mem (i := 1567) (by decide +kernel), inT_mem (i := 127) (by decide +kernel), by decide, by decide, by decide +kernel, by decide⟩, inT_mem (i := 1564) (by decide +kernel), inT_mem (i := 1566) (by decide +kernel), inT_mem (i := 64) (by decide +kernel)⟩
theorem k_X12_172 : LKV RX12 172 mX12_eatsByte 1 := ⟨⟨inT_mem (i := 1571) (by decide +kernel), inT_mem (i := 127) (by decide +kernel), by decide, by decide, by decide +kernel, by decide⟩, inT_mem (i := 1568) (by decide +kernel), inT_mem (i := 1570) (by decide +kernel), inT_mem (i := 65) (by decide +kernel)⟩
theorem k_X12_161 : LKV RX12 161 mX12_isByte 1 := ⟨⟨inT_mem (i := 1575) (by decide +kernel), inT_mem (i := 127) (by decide +kernel), by decide, by decide, by decide +kernel, by decide⟩, inT_mem (i := 1572) (by decide +kernel), inT_mem (i := 1574) (by decide +kernel), inT_mem (i := 66) (by decide +kernel)⟩
theorem k_X12_277 : LKV RX12 277 mX12_readTie 0 := ⟨⟨inT_mem (i := 1582) (by decide +kernel), inT_mem (i := 127) (by decide +kernel), by decide, by decide, by decide +kernel, by decide⟩, inT_mem (i := 1579) (by decide +kernel), inT_mem (i := 1581) (by decide +kernel), inT_mem (i := 67) (by decide +kernel)⟩
theorem k_X12_281 : LKV RX12 281 mX12_readBonus 0 := ⟨⟨inT_mem (i := 1590) (by decide +kernel), inT_mem (i := 127) (by decide +kernel), by decide, by decide, by decide +kernel, by decide⟩, inT_mem (i := 1587) (by decide +kernel), inT_mem (i := 1589) (by decide +kernel), inT_mem (i := 68) (by decide +kernel)⟩
theorem k_X12_245 : LKV RX12 245 mX12_readTest 0 := ⟨⟨inT_mem (i := 1595) (by decide +kernel), inT_mem (i := 127) (by decide +kernel), by decide, by decide, by decide +kernel, by decide⟩, inT_mem (i := 1592) (by decide +kernel), inT_mem (i := 1594) (by decide +kernel), inT_mem (i := 69) (by decide +kernel)⟩
theorem k_X12_250 : LKV RX12 250 mX12_readSide 0 := ⟨⟨inT_mem (i := 1599) (by decide +kernel), inT_mem (i := 127) (by decide +kernel), by decide, by decide, by decide +kernel, by decide⟩, inT_mem (i := 1596) (by decide +kernel), inT_mem (i := 1598) (by decide +kernel), inT_mem (i := 70) (by decide +kernel)⟩
theorem k_X12_242 : LKV RX12 242 mX12_readFact 0 := ⟨⟨inT_mem (i := 1603) (by decide +kernel), inT_mem (i := 127) (by decide +kernel), by decide, by decide, by decide +kernel, by decide⟩, inT_mem (i := 1600) (by decide +kernel), inT_mem (i := 1602) (by decide +kernel), inT_mem (i := 71) (by decide +kernel)⟩
theorem k_X12_223 : LKV RX12 223 mX12_opens 0 := ⟨⟨inT_mem (i := 1608) (by decide +kernel), inT_mem (i := 127) (by decide +kernel), by decide, by decide, by decide +kernel, by decide⟩, inT_mem (i := 1605) (by decide +kernel), inT_mem (i := 1607) (by decide +kernel), inT_mem (i := 72) (by decide +kernel)⟩
theorem k_X12_218 : LKV RX12 218 mX12_puts 2 := ⟨⟨inT_mem (i := 1612) (by decide +kernel), inT_mem (i := 127) (by decide +kernel), by decide, by decide, by decide +kernel, by decide⟩, inT_mem (i := 1609) (by decide +kernel), inT_mem (i := 1611) (by decide +kernel), inT_mem (i := 73) (by decide +kernel)⟩
theorem k_X12_226 : LKV RX12 226 mX12_readSum 0 := ⟨⟨inT_mem (i := 1616) (by decide +kernel), inT_mem (i := 127) (by decide +kernel), by decide, by decide, by decide +kernel, by decide⟩, inT_mem (i := 1613) (by decide +kernel), inT_mem (i := 1615) (by decide +kernel), inT_mem (i := 74) (by decide +kernel)⟩
theorem k_X12_237 : LKV RX12 237 mX12_readTerm 0 := ⟨⟨inT_mem (i := 1620) (by decide +kernel), inT_mem (i := 127) (by decide +kernel), by decide, by decide, by decide +kernel, by decide⟩, inT_mem (i := 1617) (by decide +kernel), inT_mem (i := 1619) (by decide +kernel), inT_mem (i := 75) (by decide +kernel)⟩
theorem k__law_31 : LKV R_law 31 mX12_fault 1 := ⟨⟨inT_mem (i := 1634) (by decide +kernel), inT_mem (i := 127) (by decide +kernel), by decide, by decide, by decide +kernel, by decide⟩, inT_mem (i := 1631) (by decide +kernel), inT_mem (i := 1632) (by decide +kernel), inT_mem (i := 1633) (by decide +kernel)⟩
theorem k__law_35 : LKV R_law 35 mX12_count 1 := ⟨⟨inT_mem (i := 1638) (by decide +kernel), inT_mem (i := 127) (by decide +kernel), by decide, by decide, by decide +kernel, by decide⟩, inT_mem (i := 1635) (by decide +kernel), inT_mem (i := 1636) (by decide +kernel), inT_mem (i := 1637) (by decide +kernel)⟩
theorem k__law_40 : LKV R_law 40 mX12_event 2 := ⟨⟨inT_mem (i := 1642) (by decide +kernel), inT_mem (i := 127) (by decide +kernel), by decide, by decide, by decide +kernel, by decide⟩, inT_mem (i := 1639) (by decide +kernel), inT_mem (i := 1640) (by decide +kernel), inT_mem (i := 1641) (by decide +kernel)⟩
theorem k_X12_320 : LKV RX12 320 mX12_isEvent 1 := ⟨⟨inT_mem (i := 1646) (by decide +kernel), inT_mem (i := 127) (by decide +kernel), by decide, by decide, by decide +kernel, by decide⟩, inT_mem (i := 1643) (by decide +kernel), inT_mem (i := 1645) (by decide +kernel), inT_mem (i := 76) (by decide +kernel)⟩
theorem k_X12_325 : LKV RX12 325 mX12_ofEvent 2 := ⟨⟨inT_mem (i := 1651) (by decide +kernel), inT_mem (i := 127) (by decide +kernel), by decide, by decide, by decide +kernel, by decide⟩, inT_mem (i := 1648) (by decide +kernel), inT_mem (i := 1650) (by decide +kernel), inT_mem (i := 77) (by decide +kernel)⟩
theorem k__law_44 : LKV R_law 44 mX12_points 2 := ⟨⟨inT_mem (i := 1655) (by decide +kernel), inT_mem (i := 127) (by decide +kernel), by decide, by decide, by decide +kernel, by decide⟩, inT_mem (i := 1652) (by decide +kernel), inT_mem (i := 1653) (by decide +kernel), inT_mem (i := 1654) (by decide +kernel)⟩
theorem k_X12_347 : LKS RX12 347 mX12_isMark 1 := ⟨⟨inT_mem (i := 1658) (by decide +kernel), inT_mem (i := 127) (by decide +kernel), by decide, by decide, by decide +kernel, by decide⟩, inT_mem (i := 1656) (by decide +kernel), inT_mem (i := 1657) (by decide +kernel)⟩
theorem k_X12_350 : LKV RX12 350 mX12_pointsOf 2 := ⟨⟨inT_mem (i := 1662) (by decide +kernel), inT_mem (i := 127) (by decide +kernel), by decide, by decide, by decide +kernel, by decide⟩, inT_mem (i := 1659) (by decide +kernel), inT_mem (i := 1661) (by decide +kernel), inT_mem (i := 78) (by decide +kernel)⟩
theorem k_X12_334 : LKS RX12 334 mX12_rootOf 1 := ⟨⟨inT_mem (i := 1666) (by decide +kernel), inT_mem (i := 127) (by decide +kernel), by decide, by decide, by decide +kernel, by decide⟩, inT_mem (i := 1664) (by decide +kernel), inT_mem (i := 1665) (by decide +kernel)⟩
theorem k_X12_338 : LKV RX12 338 mX12_tableOf 2 := ⟨⟨inT_mem (i := 1672) (by decide +kernel), inT_mem (i := 127) (by decide +kernel), by decide, by decide, by decide +kernel, by decide⟩, inT_mem (i := 1669) (by decide +kernel), inT_mem (i := 1671) (by decide +kernel), inT_mem (i := 79) (by decide +kernel)⟩
theorem k_X12_344 : LM RX12 344 Lib.MathLoose.min_long.x Lib.MathLoose.min_long.code 4 .long := ⟨inT_mem (i := 1674) (by decide +kernel), inT_mem (i := 898) (by decide +kernel), inT_mem (i := 128) (by decide +kernel), inT_mem (i := 899) (by decide +kernel)⟩
theorem k__law_48 : LKV R_law 48 mX12_worst 2 := ⟨⟨inT_mem (i := 1678) (by decide +kernel), inT_mem (i := 127) (by decide +kernel), by decide, by decide, by decide +kernel, by decide⟩, inT_mem (i := 1675) (by decide +kernel), inT_mem (i := 1676) (by decide +kernel), inT_mem (i := 1677) (by decide +kernel)⟩
theorem k_X12_359 : LKV RX12 359 mX12_worstOf 2 := ⟨⟨inT_mem (i := 1682) (by decide +kernel), inT_mem (i := 127) (by decide +kernel), by decide, by decide, by decide +kernel, by decide⟩, inT_mem (i := 1679) (by decide +kernel), inT_mem (i := 1681) (by decide +kernel), inT_mem (i := 80) (by decide +kernel)⟩
theorem k_X12_356 : LKV RX12 356 mX12_topOf 1 := ⟨⟨inT_mem (i := 1686) (by decide +kernel), inT_mem (i := 127) (by decide +kernel), by decide, by decide, by decide +kernel, by decide⟩, inT_mem (i := 1683) (by decide +kernel), inT_mem (i := 1685) (by decide +kernel), inT_mem (i := 81) (by decide +kernel)⟩
theorem k_X12_353 : LKV RX12 353 mX12_markBy 2 := ⟨⟨inT_mem (i := 1690) (by decide +kernel), inT_mem (i := 127) (by decide +kernel), by decide, by decide, by decide +kernel, by decide⟩, inT_mem (i := 1687) (by decide +kernel), inT_mem (i := 1689) (by decide +kernel), inT_mem (i := 82) (by decide +kernel)⟩
theorem k__law_52 : LKV R_law 52 mX12_top 1 := ⟨⟨inT_mem (i := 1694) (by decide +kernel), inT_mem (i := 127) (by decide +kernel), by decide, by decide, by decide +kernel, by decide⟩, inT_mem (i := 1691) (by decide +kernel), inT_mem (i := 1692) (by decide +kernel), inT_mem (i := 1693) (by decide +kernel)⟩
theorem k__law_57 : LKV R_law 57 mX12_same 3 := ⟨⟨inT_mem (i := 1698) (by decide +kernel), inT_mem (i := 127) (by decide +kernel), by decide, by decide, by decide +kernel, by decide⟩, inT_mem (i := 1695) (by decide +kernel), inT_mem (i := 1696) (by decide +kernel), inT_mem (i := 1697) (by decide +kernel)⟩
theorem k__law_61 : LKV R_law 61 mX12_step 2 := ⟨⟨inT_mem (i := 1702) (by decide +kernel), inT_mem (i := 127) (by decide +kernel), by decide, by decide, by decide +kernel, by decide⟩, inT_mem (i := 1699) (by decide +kernel), inT_mem (i := 1700) (by decide +kernel), inT_mem (i := 1701) (by decide +kernel)⟩
theorem k_X12_362 : LM RX12 362 Lib.Math.abs.name Lib.Math.abs.code 1 .int := ⟨inT_mem (i := 1703) (by decide +kernel), inT_mem (i := 932) (by decide +kernel), inT_mem (i := 128) (by decide +kernel), inT_mem (i := 933) (by decide +kernel)⟩
theorem k__law_65 : LKV R_law 65 mX12_mark 2 := ⟨⟨inT_mem (i := 1707) (by decide +kernel), inT_mem (i := 127) (by decide +kernel), by decide, by decide, by decide +kernel, by decide⟩, inT_mem (i := 1704) (by decide +kernel), inT_mem (i := 1705) (by decide +kernel), inT_mem (i := 1706) (by decide +kernel)⟩
theorem k_X12_407 : LKV RX12 407 mX12_isBoth 2 := ⟨⟨inT_mem (i := 1711) (by decide +kernel), inT_mem (i := 127) (by decide +kernel), by decide, by decide, by decide +kernel, by decide⟩, inT_mem (i := 1708) (by decide +kernel), inT_mem (i := 1710) (by decide +kernel), inT_mem (i := 83) (by decide +kernel)⟩
theorem k_X12_317 : LKV RX12 317 mX12_isOne 1 := ⟨⟨inT_mem (i := 1715) (by decide +kernel), inT_mem (i := 127) (by decide +kernel), by decide, by decide, by decide +kernel, by decide⟩, inT_mem (i := 1712) (by decide +kernel), inT_mem (i := 1714) (by decide +kernel), inT_mem (i := 84) (by decide +kernel)⟩
theorem k__law_69 : LKV R_law 69 mX12_worth 2 := ⟨⟨inT_mem (i := 1719) (by decide +kernel), inT_mem (i := 127) (by decide +kernel), by decide, by decide, by decide +kernel, by decide⟩, inT_mem (i := 1716) (by decide +kernel), inT_mem (i := 1717) (by decide +kernel), inT_mem (i := 1718) (by decide +kernel)⟩
theorem k__law_73 : LKV R_law 73 mX12_of 2 := ⟨⟨inT_mem (i := 1723) (by decide +kernel), inT_mem (i := 127) (by decide +kernel), by decide, by decide, by decide +kernel, by decide⟩, inT_mem (i := 1720) (by decide +kernel), inT_mem (i := 1721) (by decide +kernel), inT_mem (i := 1722) (by decide +kernel)⟩
theorem k_X12_410 : LKV RX12 410 mX12_lays 1 := ⟨⟨inT_mem (i := 1727) (by decide +kernel), inT_mem (i := 127) (by decide +kernel), by decide, by decide, by decide +kernel, by decide⟩, inT_mem (i := 1724) (by decide +kernel), inT_mem (i := 1726) (by decide +kernel), inT_mem (i := 85) (by decide +kernel)⟩
theorem k_X12_395 : LKV RX12 395 mX12_totalOf 1 := ⟨⟨inT_mem (i := 1731) (by decide +kernel), inT_mem (i := 127) (by decide +kernel), by decide, by decide, by decide +kernel, by decide⟩, inT_mem (i := 1728) (by decide +kernel), inT_mem (i := 1730) (by decide +kernel), inT_mem (i := 86) (by decide +kernel)⟩
theorem k_X12_368 : LKV RX12 368 mX12_sumOf 1 := ⟨⟨inT_mem (i := 1735) (by decide +kernel), inT_mem (i := 127) (by decide +kernel), by decide, by decide, by decide +kernel, by decide⟩, inT_mem (i := 1732) (by decide +kernel), inT_mem (i := 1734) (by decide +kernel), inT_mem (i := 87) (by decide +kernel)⟩
theorem k_X12_392 : LKV RX12 392 mX12_paidOf 1 := ⟨⟨inT_mem (i := 1739) (by decide +kernel), inT_mem (i := 127) (by decide +kernel), by decide, by decide, by decide +kernel, by decide⟩, inT_mem (i := 1736) (by decide +kernel), inT_mem (i := 1738) (by decide +kernel), inT_mem (i := 88) (by decide +kernel)⟩
theorem k_X12_388 : LKV RX12 388 mX12_isSo 2 := ⟨⟨inT_mem (i := 1743) (by decide +kernel), inT_mem (i := 127) (by decide +kernel), by decide, by decide, by decide +kernel, by decide⟩, inT_mem (i := 1740) (by decide +kernel), inT_mem (i := 1742) (by decide +kernel), inT_mem (i := 89) (by decide +kernel)⟩
theorem k_X12_380 : LKV RX12 380 mX12_asked 3 := ⟨⟨inT_mem (i := 1747) (by decide +kernel), inT_mem (i := 127) (by decide +kernel), by decide, by decide, by decide +kernel, by decide⟩, inT_mem (i := 1744) (by decide +kernel), inT_mem (i := 1746) (by decide +kernel), inT_mem (i := 90) (by decide +kernel)⟩
theorem k_X12_371 : LKV RX12 371 mX12_doneOf 1 := ⟨⟨inT_mem (i := 1751) (by decide +kernel), inT_mem (i := 127) (by decide +kernel), by decide, by decide, by decide +kernel, by decide⟩, inT_mem (i := 1748) (by decide +kernel), inT_mem (i := 1750) (by decide +kernel), inT_mem (i := 91) (by decide +kernel)⟩
theorem k_X12_374 : LKV RX12 374 mX12_bestOf 1 := ⟨⟨inT_mem (i := 1755) (by decide +kernel), inT_mem (i := 127) (by decide +kernel), by decide, by decide, by decide +kernel, by decide⟩, inT_mem (i := 1752) (by decide +kernel), inT_mem (i := 1754) (by decide +kernel), inT_mem (i := 92) (by decide +kernel)⟩
theorem k_X12_365 : LM RX12 365 Lib.Math.max.name Lib.Math.max.code 2 .int := ⟨inT_mem (i := 1756) (by decide +kernel), inT_mem (i := 639) (by decide +kernel), inT_mem (i := 128) (by decide +kernel), inT_mem (i := 640) (by decide +kernel)⟩
theorem k_X12_377 : LKV RX12 377 mX12_leastOf 1 := ⟨⟨inT_mem (i := 1760) (by decide +kernel), inT_mem (i := 127) (by decide +kernel), by decide, by decide, by decide +kernel, by decide⟩, inT_mem (i := 1757) (by decide +kernel), inT_mem (i := 1759) (by decide +kernel), inT_mem (i := 93) (by decide +kernel)⟩
theorem k_X12_384 : LKS RX12 384 mX12_two 3 := ⟨⟨inT_mem (i := 1763) (by decide +kernel), inT_mem (i := 127) (by decide +kernel), by decide, by decide, by decide +kernel, by decide⟩, inT_mem (i := 1761) (by decide +kernel), inT_mem (i := 1762) (by decide +kernel)⟩
theorem k_X12_398 : LKV RX12 398 mX12_winsOf 1 := ⟨⟨inT_mem (i := 1767) (by decide +kernel), inT_mem (i := 127) (by decide +kernel), by decide, by decide, by decide +kernel, by decide⟩, inT_mem (i := 1764) (by decide +kernel), inT_mem (i := 1766) (by decide +kernel), inT_mem (i := 94) (by decide +kernel)⟩
theorem k__law_77 : LKV R_law 77 mX12_holds 2 := ⟨⟨inT_mem (i := 1771) (by decide +kernel), inT_mem (i := 127) (by decide +kernel), by decide, by decide, by decide +kernel, by decide⟩, inT_mem (i := 1768) (by decide +kernel), inT_mem (i := 1769) (by decide +kernel), inT_mem (i := 1770) (by decide +kernel)⟩
theorem k__law_81 : LKV R_law 81 mX12_bonus 1 := ⟨⟨inT_mem (i := 1775) (by decide +kernel), inT_mem (i := 127) (by decide +kernel), by decide, by decide, by decide +kernel, by decide⟩, inT_mem (i := 1772) (by decide +kernel), inT_mem (i := 1773) (by decide +kernel), inT_mem (i := 1774) (by decide +kernel)⟩
theorem k__law_85 : LKV R_law 85 mX12_place 1 := ⟨⟨inT_mem (i := 1779) (by decide +kernel), inT_mem (i := 127) (by decide +kernel), by decide, by decide, by decide +kernel, by decide⟩, inT_mem (i := 1776) (by decide +kernel), inT_mem (i := 1777) (by decide +kernel), inT_mem (i := 1778) (by decide +kernel)⟩
theorem k_X12_414 : LKV RX12 414 mX12_placed 1 := ⟨⟨inT_mem (i := 1783) (by decide +kernel), inT_mem (i := 127) (by decide +kernel), by decide, by decide, by decide +kernel, by decide⟩, inT_mem (i := 1780) (by decide +kernel), inT_mem (i := 1782) (by decide +kernel), inT_mem (i := 95) (by decide +kernel)⟩
theorem k_X12_404 : LKV RX12 404 mX12_rankOf 1 := ⟨⟨inT_mem (i := 1787) (by decide +kernel), inT_mem (i := 127) (by decide +kernel), by decide, by decide, by decide +kernel, by decide⟩, inT_mem (i := 1784) (by decide +kernel), inT_mem (i := 1786) (by decide +kernel), inT_mem (i := 96) (by decide +kernel)⟩
theorem k_X12_401 : LKV RX12 401 mX12_isAhead 2 := ⟨⟨inT_mem (i := 1791) (by decide +kernel), inT_mem (i := 127) (by decide +kernel), by decide, by decide, by decide +kernel, by decide⟩, inT_mem (i := 1788) (by decide +kernel), inT_mem (i := 1790) (by decide +kernel), inT_mem (i := 97) (by decide +kernel)⟩
theorem k__law_89 : LKV R_law 89 mX12_rank 1 := ⟨⟨inT_mem (i := 1795) (by decide +kernel), inT_mem (i := 127) (by decide +kernel), by decide, by decide, by decide +kernel, by decide⟩, inT_mem (i := 1792) (by decide +kernel), inT_mem (i := 1793) (by decide +kernel), inT_mem (i := 1794) (by decide +kernel)⟩
theorem k__law_93 : LKV R_law 93 mX12_leads 1 := ⟨⟨inT_mem (i := 1799) (by decide +kernel), inT_mem (i := 127) (by decide +kernel), by decide, by decide, by decide +kernel, by decide⟩, inT_mem (i := 1796) (by decide +kernel), inT_mem (i := 1797) (by decide +kernel), inT_mem (i := 1798) (by decide +kernel)⟩
theorem k_X12_421 : LKV RX12 421 mX12_leader 1 := ⟨⟨inT_mem (i := 1803) (by decide +kernel), inT_mem (i := 127) (by decide +kernel), by decide, by decide, by decide +kernel, by decide⟩, inT_mem (i := 1800) (by decide +kernel), inT_mem (i := 1802) (by decide +kernel), inT_mem (i := 98) (by decide +kernel)⟩
theorem k_X12_417 : LKV RX12 417 mX12_isBetter 3 := ⟨⟨inT_mem (i := 1807) (by decide +kernel), inT_mem (i := 127) (by decide +kernel), by decide, by decide, by decide +kernel, by decide⟩, inT_mem (i := 1804) (by decide +kernel), inT_mem (i := 1806) (by decide +kernel), inT_mem (i := 99) (by decide +kernel)⟩
theorem k__law_97 : LKV R_law 97 mX12_dream 0 := ⟨⟨inT_mem (i := 1811) (by decide +kernel), inT_mem (i := 127) (by decide +kernel), by decide, by decide, by decide +kernel, by decide⟩, inT_mem (i := 1808) (by decide +kernel), inT_mem (i := 1809) (by decide +kernel), inT_mem (i := 1810) (by decide +kernel)⟩
theorem k__law_101 : LKV R_law 101 mX12_need 2 := ⟨⟨inT_mem (i := 1815) (by decide +kernel), inT_mem (i := 127) (by decide +kernel), by decide, by decide, by decide +kernel, by decide⟩, inT_mem (i := 1812) (by decide +kernel), inT_mem (i := 1813) (by decide +kernel), inT_mem (i := 1814) (by decide +kernel)⟩
theorem k_X12_424 : LKV RX12 424 mX12_puts0 3 := ⟨⟨inT_mem (i := 1819) (by decide +kernel), inT_mem (i := 127) (by decide +kernel), by decide, by decide, by decide +kernel, by decide⟩, inT_mem (i := 1816) (by decide +kernel), inT_mem (i := 1818) (by decide +kernel), inT_mem (i := 100) (by decide +kernel)⟩
theorem k__law_105 : LKV R_law 105 mX12_needIn 3 := ⟨⟨inT_mem (i := 1823) (by decide +kernel), inT_mem (i := 127) (by decide +kernel), by decide, by decide, by decide +kernel, by decide⟩, inT_mem (i := 1820) (by decide +kernel), inT_mem (i := 1821) (by decide +kernel), inT_mem (i := 1822) (by decide +kernel)⟩
theorem k__law_109 : LKV R_law 109 mX12_pass 3 := ⟨⟨inT_mem (i := 1827) (by decide +kernel), inT_mem (i := 127) (by decide +kernel), by decide, by decide, by decide +kernel, by decide⟩, inT_mem (i := 1824) (by decide +kernel), inT_mem (i := 1825) (by decide +kernel), inT_mem (i := 1826) (by decide +kernel)⟩
theorem k__law_113 : LKV R_law 113 mX12_trained 3 := ⟨⟨inT_mem (i := 1831) (by decide +kernel), inT_mem (i := 127) (by decide +kernel), by decide, by decide, by decide +kernel, by decide⟩, inT_mem (i := 1828) (by decide +kernel), inT_mem (i := 1829) (by decide +kernel), inT_mem (i := 1830) (by decide +kernel)⟩
theorem k_X12_430 : LKV RX12 430 mX12_trainedOf 3 := ⟨⟨inT_mem (i := 1836) (by decide +kernel), inT_mem (i := 127) (by decide +kernel), by decide, by decide, by decide +kernel, by decide⟩, inT_mem (i := 1833) (by decide +kernel), inT_mem (i := 1835) (by decide +kernel), inT_mem (i := 101) (by decide +kernel)⟩
theorem k__law_117 : LKV R_law 117 mX12_gains 3 := ⟨⟨inT_mem (i := 1840) (by decide +kernel), inT_mem (i := 127) (by decide +kernel), by decide, by decide, by decide +kernel, by decide⟩, inT_mem (i := 1837) (by decide +kernel), inT_mem (i := 1838) (by decide +kernel), inT_mem (i := 1839) (by decide +kernel)⟩
theorem k__law_121 : LKV R_law 121 mX12_pays 2 := ⟨⟨inT_mem (i := 1844) (by decide +kernel), inT_mem (i := 127) (by decide +kernel), by decide, by decide, by decide +kernel, by decide⟩, inT_mem (i := 1841) (by decide +kernel), inT_mem (i := 1842) (by decide +kernel), inT_mem (i := 1843) (by decide +kernel)⟩
theorem k_X12_434 : LKV RX12 434 mX12_trainedWorth 3 := ⟨⟨inT_mem (i := 1848) (by decide +kernel), inT_mem (i := 127) (by decide +kernel), by decide, by decide, by decide +kernel, by decide⟩, inT_mem (i := 1845) (by decide +kernel), inT_mem (i := 1847) (by decide +kernel), inT_mem (i := 102) (by decide +kernel)⟩
theorem k__law_125 : LKV R_law 125 mX12_spread 3 := ⟨⟨inT_mem (i := 1852) (by decide +kernel), inT_mem (i := 127) (by decide +kernel), by decide, by decide, by decide +kernel, by decide⟩, inT_mem (i := 1849) (by decide +kernel), inT_mem (i := 1850) (by decide +kernel), inT_mem (i := 1851) (by decide +kernel)⟩
theorem k_X12_448 : LKV RX12 448 mX12_laysSpread 1 := ⟨⟨inT_mem (i := 1857) (by decide +kernel), inT_mem (i := 127) (by decide +kernel), by decide, by decide, by decide +kernel, by decide⟩, inT_mem (i := 1854) (by decide +kernel), inT_mem (i := 1856) (by decide +kernel), inT_mem (i := 103) (by decide +kernel)⟩
theorem k_X12_437 : LKS RX12 437 mX12_byAt 2 := ⟨⟨inT_mem (i := 1860) (by decide +kernel), inT_mem (i := 127) (by decide +kernel), by decide, by decide, by decide +kernel, by decide⟩, inT_mem (i := 1858) (by decide +kernel), inT_mem (i := 1859) (by decide +kernel)⟩
theorem k_X12_442 : LKV RX12 442 mX12_spreadBy 4 := ⟨⟨inT_mem (i := 1866) (by decide +kernel), inT_mem (i := 127) (by decide +kernel), by decide, by decide, by decide +kernel, by decide⟩, inT_mem (i := 1863) (by decide +kernel), inT_mem (i := 1865) (by decide +kernel), inT_mem (i := 104) (by decide +kernel)⟩
theorem k__law_129 : LKV R_law 129 mX12_hours 2 := ⟨⟨inT_mem (i := 1870) (by decide +kernel), inT_mem (i := 127) (by decide +kernel), by decide, by decide, by decide +kernel, by decide⟩, inT_mem (i := 1867) (by decide +kernel), inT_mem (i := 1868) (by decide +kernel), inT_mem (i := 1869) (by decide +kernel)⟩
theorem k__law_182 : LKV R_law 182 mX12_kth 2 := ⟨⟨inT_mem (i := 1874) (by decide +kernel), inT_mem (i := 127) (by decide +kernel), by decide, by decide, by decide +kernel, by decide⟩, inT_mem (i := 1871) (by decide +kernel), inT_mem (i := 1872) (by decide +kernel), inT_mem (i := 1873) (by decide +kernel)⟩
theorem k_X12_451 : LKV RX12 451 mX12_betterOf 2 := ⟨⟨inT_mem (i := 1878) (by decide +kernel), inT_mem (i := 127) (by decide +kernel), by decide, by decide, by decide +kernel, by decide⟩, inT_mem (i := 1875) (by decide +kernel), inT_mem (i := 1877) (by decide +kernel), inT_mem (i := 105) (by decide +kernel)⟩
theorem k__law_186 : LKV R_law 186 mX12_behind 1 := ⟨⟨inT_mem (i := 1882) (by decide +kernel), inT_mem (i := 127) (by decide +kernel), by decide, by decide, by decide +kernel, by decide⟩, inT_mem (i := 1879) (by decide +kernel), inT_mem (i := 1880) (by decide +kernel), inT_mem (i := 1881) (by decide +kernel)⟩
theorem k__law_190 : LKV R_law 190 mX12_hour 3 := ⟨⟨inT_mem (i := 1886) (by decide +kernel), inT_mem (i := 127) (by decide +kernel), by decide, by decide, by decide +kernel, by decide⟩, inT_mem (i := 1883) (by decide +kernel), inT_mem (i := 1884) (by decide +kernel), inT_mem (i := 1885) (by decide +kernel)⟩
theorem k__law_194 : LKV R_law 194 mX12_squad 2 := ⟨⟨inT_mem (i := 1890) (by decide +kernel), inT_mem (i := 127) (by decide +kernel), by decide, by decide, by decide +kernel, by decide⟩, inT_mem (i := 1887) (by decide +kernel), inT_mem (i := 1888) (by decide +kernel), inT_mem (i := 1889) (by decide +kernel)⟩
theorem k_X12_459 : LKV RX12 459 mX12_laysSquad 0 := ⟨⟨inT_mem (i := 1894) (by decide +kernel), inT_mem (i := 127) (by decide +kernel), by decide, by decide, by decide +kernel, by decide⟩, inT_mem (i := 1891) (by decide +kernel), inT_mem (i := 1893) (by decide +kernel), inT_mem (i := 106) (by decide +kernel)⟩
theorem k_X12_456 : LKV RX12 456 mX12_squadOf 3 := ⟨⟨inT_mem (i := 1900) (by decide +kernel), inT_mem (i := 127) (by decide +kernel), by decide, by decide, by decide +kernel, by decide⟩, inT_mem (i := 1897) (by decide +kernel), inT_mem (i := 1899) (by decide +kernel), inT_mem (i := 107) (by decide +kernel)⟩
theorem k__law_198 : LKV R_law 198 mX12_close 0 := ⟨⟨inT_mem (i := 1904) (by decide +kernel), inT_mem (i := 127) (by decide +kernel), by decide, by decide, by decide +kernel, by decide⟩, inT_mem (i := 1901) (by decide +kernel), inT_mem (i := 1902) (by decide +kernel), inT_mem (i := 1903) (by decide +kernel)⟩
theorem k__law_202 : LKV R_law 202 mX12_team 1 := ⟨⟨inT_mem (i := 1908) (by decide +kernel), inT_mem (i := 127) (by decide +kernel), by decide, by decide, by decide +kernel, by decide⟩, inT_mem (i := 1905) (by decide +kernel), inT_mem (i := 1906) (by decide +kernel), inT_mem (i := 1907) (by decide +kernel)⟩
theorem k__law_206 : LKV R_law 206 mX12_kinds 3 := ⟨⟨inT_mem (i := 1912) (by decide +kernel), inT_mem (i := 127) (by decide +kernel), by decide, by decide, by decide +kernel, by decide⟩, inT_mem (i := 1909) (by decide +kernel), inT_mem (i := 1910) (by decide +kernel), inT_mem (i := 1911) (by decide +kernel)⟩
theorem k__law_210 : LKV R_law 210 mX12_lent 3 := ⟨⟨inT_mem (i := 1916) (by decide +kernel), inT_mem (i := 127) (by decide +kernel), by decide, by decide, by decide +kernel, by decide⟩, inT_mem (i := 1913) (by decide +kernel), inT_mem (i := 1914) (by decide +kernel), inT_mem (i := 1915) (by decide +kernel)⟩
theorem k__law_214 : LKV R_law 214 mX12_even 1 := ⟨⟨inT_mem (i := 1920) (by decide +kernel), inT_mem (i := 127) (by decide +kernel), by decide, by decide, by decide +kernel, by decide⟩, inT_mem (i := 1917) (by decide +kernel), inT_mem (i := 1918) (by decide +kernel), inT_mem (i := 1919) (by decide +kernel)⟩
theorem k__law_133 : LKV R_law 133 mX12_meet 2 := ⟨⟨inT_mem (i := 1924) (by decide +kernel), inT_mem (i := 127) (by decide +kernel), by decide, by decide, by decide +kernel, by decide⟩, inT_mem (i := 1921) (by decide +kernel), inT_mem (i := 1922) (by decide +kernel), inT_mem (i := 1923) (by decide +kernel)⟩
theorem k_X12_477 : LKV RX12 477 mX12_meets 1 := ⟨⟨inT_mem (i := 1928) (by decide +kernel), inT_mem (i := 127) (by decide +kernel), by decide, by decide, by decide +kernel, by decide⟩, inT_mem (i := 1925) (by decide +kernel), inT_mem (i := 1927) (by decide +kernel), inT_mem (i := 108) (by decide +kernel)⟩
theorem k_X12_474 : LKV RX12 474 mX12_draw 1 := ⟨⟨inT_mem (i := 1932) (by decide +kernel), inT_mem (i := 127) (by decide +kernel), by decide, by decide, by decide +kernel, by decide⟩, inT_mem (i := 1929) (by decide +kernel), inT_mem (i := 1931) (by decide +kernel), inT_mem (i := 109) (by decide +kernel)⟩
theorem k__law_137 : LKV R_law 137 mX12_met 2 := ⟨⟨inT_mem (i := 1940) (by decide +kernel), inT_mem (i := 127) (by decide +kernel), by decide, by decide, by decide +kernel, by decide⟩, inT_mem (i := 1937) (by decide +kernel), inT_mem (i := 1938) (by decide +kernel), inT_mem (i := 1939) (by decide +kernel)⟩
theorem k__law_141 : LKV R_law 141 mX12_odds 3 := ⟨⟨inT_mem (i := 1944) (by decide +kernel), inT_mem (i := 127) (by decide +kernel), by decide, by decide, by decide +kernel, by decide⟩, inT_mem (i := 1941) (by decide +kernel), inT_mem (i := 1942) (by decide +kernel), inT_mem (i := 1943) (by decide +kernel)⟩
theorem k__law_166 : LKV R_law 166 mX12_undo 0 := ⟨⟨inT_mem (i := 1950) (by decide +kernel), inT_mem (i := 127) (by decide +kernel), by decide, by decide, by decide +kernel, by decide⟩, inT_mem (i := 1947) (by decide +kernel), inT_mem (i := 1948) (by decide +kernel), inT_mem (i := 1949) (by decide +kernel)⟩
theorem k__law_145 : LKV R_law 145 mX12_sets 3 := ⟨⟨inT_mem (i := 1954) (by decide +kernel), inT_mem (i := 127) (by decide +kernel), by decide, by decide, by decide +kernel, by decide⟩, inT_mem (i := 1951) (by decide +kernel), inT_mem (i := 1952) (by decide +kernel), inT_mem (i := 1953) (by decide +kernel)⟩
theorem k_X12_485 : LKV RX12 485 mX12_keeps 0 := ⟨⟨inT_mem (i := 1958) (by decide +kernel), inT_mem (i := 127) (by decide +kernel), by decide, by decide, by decide +kernel, by decide⟩, inT_mem (i := 1955) (by decide +kernel), inT_mem (i := 1957) (by decide +kernel), inT_mem (i := 110) (by decide +kernel)⟩
theorem k__law_149 : LKV R_law 149 mX12_athlete 0 := ⟨⟨inT_mem (i := 1962) (by decide +kernel), inT_mem (i := 127) (by decide +kernel), by decide, by decide, by decide +kernel, by decide⟩, inT_mem (i := 1959) (by decide +kernel), inT_mem (i := 1960) (by decide +kernel), inT_mem (i := 1961) (by decide +kernel)⟩
theorem k__law_154 : LKV R_law 154 mX12_gain 4 := ⟨⟨inT_mem (i := 1966) (by decide +kernel), inT_mem (i := 127) (by decide +kernel), by decide, by decide, by decide +kernel, by decide⟩, inT_mem (i := 1963) (by decide +kernel), inT_mem (i := 1964) (by decide +kernel), inT_mem (i := 1965) (by decide +kernel)⟩
theorem k__law_158 : LKV R_law 158 mX12_trains 3 := ⟨⟨inT_mem (i := 1970) (by decide +kernel), inT_mem (i := 127) (by decide +kernel), by decide, by decide, by decide +kernel, by decide⟩, inT_mem (i := 1967) (by decide +kernel), inT_mem (i := 1968) (by decide +kernel), inT_mem (i := 1969) (by decide +kernel)⟩
theorem k__law_162 : LKV R_law 162 mX12_tie 1 := ⟨⟨inT_mem (i := 1974) (by decide +kernel), inT_mem (i := 127) (by decide +kernel), by decide, by decide, by decide +kernel, by decide⟩, inT_mem (i := 1971) (by decide +kernel), inT_mem (i := 1972) (by decide +kernel), inT_mem (i := 1973) (by decide +kernel)⟩
theorem k__law_170 : LKV R_law 170 mX12_tell 0 := ⟨⟨inT_mem (i := 1978) (by decide +kernel), inT_mem (i := 127) (by decide +kernel), by decide, by decide, by decide +kernel, by decide⟩, inT_mem (i := 1975) (by decide +kernel), inT_mem (i := 1976) (by decide +kernel), inT_mem (i := 1977) (by decide +kernel)⟩
theorem k_X12_491 : LKV RX12 491 mX12_saysNumber 1 := ⟨⟨inT_mem (i := 1982) (by decide +kernel), inT_mem (i := 127) (by decide +kernel), by decide, by decide, by decide +kernel, by decide⟩, inT_mem (i := 1979) (by decide +kernel), inT_mem (i := 1981) (by decide +kernel), inT_mem (i := 111) (by decide +kernel)⟩
theorem k_X12_488 : LKV RX12 488 mX12_says 1 := ⟨⟨inT_mem (i := 1986) (by decide +kernel), inT_mem (i := 127) (by decide +kernel), by decide, by decide, by decide +kernel, by decide⟩, inT_mem (i := 1983) (by decide +kernel), inT_mem (i := 1985) (by decide +kernel), inT_mem (i := 112) (by decide +kernel)⟩
theorem k__law_174 : LKV R_law 174 mX12_card 1 := ⟨⟨inT_mem (i := 1990) (by decide +kernel), inT_mem (i := 127) (by decide +kernel), by decide, by decide, by decide +kernel, by decide⟩, inT_mem (i := 1987) (by decide +kernel), inT_mem (i := 1988) (by decide +kernel), inT_mem (i := 1989) (by decide +kernel)⟩
theorem k__law_178 : LKV R_law 178 mX12_octet 1 := ⟨⟨inT_mem (i := 1994) (by decide +kernel), inT_mem (i := 127) (by decide +kernel), by decide, by decide, by decide +kernel, by decide⟩, inT_mem (i := 1991) (by decide +kernel), inT_mem (i := 1992) (by decide +kernel), inT_mem (i := 1993) (by decide +kernel)⟩
theorem k_X11_15 : LKIN RX11 15 mX3_init 0 := ⟨⟨inT_mem (i := 146) (by decide +kernel), inT_mem (i := 115) (by decide +kernel), by decide, by decide, by decide +kernel, by decide⟩, nth_mem (n := 0) rfl, rfl, rfl, inT_mem (i := 145) (by decide +kernel)⟩
theorem k_X11_22 : LKIN RX11 22 mX4_init 0 := ⟨⟨inT_mem (i := 162) (by decide +kernel), inT_mem (i := 116) (by decide +kernel), by decide, by decide, by decide +kernel, by decide⟩, nth_mem (n := 1) rfl, rfl, rfl, inT_mem (i := 161) (by decide +kernel)⟩
theorem k_X4_17 : LKIN RX4 17 mX9_init 0 := ⟨⟨inT_mem (i := 168) (by decide +kernel), inT_mem (i := 117) (by decide +kernel), by decide, by decide, by decide +kernel, by decide⟩, nth_mem (n := 2) rfl, rfl, rfl, inT_mem (i := 167) (by decide +kernel)⟩
theorem k_X1_29 : LKIN RX1 29 mX0_init 0 := ⟨⟨inT_mem (i := 217) (by decide +kernel), inT_mem (i := 121) (by decide +kernel), by decide, by decide, by decide +kernel, by decide⟩, nth_mem (n := 3) rfl, rfl, rfl, inT_mem (i := 216) (by decide +kernel)⟩
theorem k_X1_34 : LKIN RX1 34 mX10_init 0 := ⟨⟨inT_mem (i := 250) (by decide +kernel), inT_mem (i := 122) (by decide +kernel), by decide, by decide, by decide +kernel, by decide⟩, nth_mem (n := 4) rfl, rfl, rfl, inT_mem (i := 249) (by decide +kernel)⟩
theorem k_X11_29 : LKIN RX11 29 mX2_init 0 := ⟨⟨inT_mem (i := 380) (by decide +kernel), inT_mem (i := 123) (by decide +kernel), by decide, by decide, by decide +kernel, by decide⟩, nth_mem (n := 5) rfl, rfl, rfl, inT_mem (i := 379) (by decide +kernel)⟩
theorem k_X11_43 : LKIN RX11 43 mX5_init 0 := ⟨⟨inT_mem (i := 405) (by decide +kernel), inT_mem (i := 124) (by decide +kernel), by decide, by decide, by decide +kernel, by decide⟩, nth_mem (n := 6) rfl, rfl, rfl, inT_mem (i := 404) (by decide +kernel)⟩
theorem k_X8_21 : LKIN RX8 21 mX5_init 0 := ⟨⟨inT_mem (i := 405) (by decide +kernel), inT_mem (i := 124) (by decide +kernel), by decide, by decide, by decide +kernel, by decide⟩, nth_mem (n := 7) rfl, rfl, rfl, inT_mem (i := 404) (by decide +kernel)⟩
theorem k_X11_57 : LKIN RX11 57 mX6_init 0 := ⟨⟨inT_mem (i := 482) (by decide +kernel), inT_mem (i := 126) (by decide +kernel), by decide, by decide, by decide +kernel, by decide⟩, nth_mem (n := 8) rfl, rfl, rfl, inT_mem (i := 481) (by decide +kernel)⟩
theorem k_X4_93 : LKSN RX4 93 mX11_isWithin 3 := ⟨⟨inT_mem (i := 692) (by decide +kernel), inT_mem (i := 114) (by decide +kernel), by decide, by decide, by decide +kernel, by decide⟩, nth_mem (n := 9) rfl, inT_mem (i := 691) (by decide +kernel)⟩
theorem k_X1_48 : LKSN RX1 48 mX11_cellOf 2 := ⟨⟨inT_mem (i := 826) (by decide +kernel), inT_mem (i := 114) (by decide +kernel), by decide, by decide, by decide +kernel, by decide⟩, nth_mem (n := 10) rfl, inT_mem (i := 825) (by decide +kernel)⟩
theorem k_X4_107 : LKSN RX4 107 mX11_cellOf 2 := ⟨⟨inT_mem (i := 826) (by decide +kernel), inT_mem (i := 114) (by decide +kernel), by decide, by decide, by decide +kernel, by decide⟩, nth_mem (n := 11) rfl, inT_mem (i := 825) (by decide +kernel)⟩
theorem k_X5_26 : LKSN RX5 26 mX11_cellOf 2 := ⟨⟨inT_mem (i := 826) (by decide +kernel), inT_mem (i := 114) (by decide +kernel), by decide, by decide, by decide +kernel, by decide⟩, nth_mem (n := 12) rfl, inT_mem (i := 825) (by decide +kernel)⟩
theorem k_X8_110 : LKSN RX8 110 mX11_isWithin 3 := ⟨⟨inT_mem (i := 692) (by decide +kernel), inT_mem (i := 114) (by decide +kernel), by decide, by decide, by decide +kernel, by decide⟩, nth_mem (n := 13) rfl, inT_mem (i := 691) (by decide +kernel)⟩
theorem k_X8_62 : LKSN RX8 62 mX11_cellOf 2 := ⟨⟨inT_mem (i := 826) (by decide +kernel), inT_mem (i := 114) (by decide +kernel), by decide, by decide, by decide +kernel, by decide⟩, nth_mem (n := 14) rfl, inT_mem (i := 825) (by decide +kernel)⟩
theorem n_X9_70 : Cond.constant RX9 70 (1000000) ∈ tbl2 := inT_mem (i := 576) (by decide +kernel)
theorem n_X4_175 : Cond.constant RX4 175 (99999) ∈ tbl2 := inT_mem (i := 684) (by decide +kernel)
theorem n_X0_34 : Cond.constant RX0 34 (100000) ∈ tbl2 := inT_mem (i := 763) (by decide +kernel)
theorem n_X11_236 : Cond.constant RX11 236 (99999) ∈ tbl2 := inT_mem (i := 879) (by decide +kernel)
theorem n_X10_56 : Cond.constant RX10 56 (99999) ∈ tbl2 := inT_mem (i := 912) (by decide +kernel)
theorem n_X8_84 : Cond.constant RX8 84 (99999) ∈ tbl2 := inT_mem (i := 1206) (by decide +kernel)
theorem n_X11_287 : Cond.constant RX11 287 (2147483647) ∈ tbl2 := inT_mem (i := 1217) (by decide +kernel)
theorem n_X12_137 : Cond.constant RX12 137 (9999999) ∈ tbl2 := inT_mem (i := 1514) (by decide +kernel)
theorem n_X12_177 : Cond.constant RX12 177 (99999) ∈ tbl2 := inT_mem (i := 1550) (by decide +kernel)
theorem n_X12_440 : Cond.constant RX12 440 (-100000) ∈ tbl2 := inT_mem (i := 1861) (by decide +kernel)
theorem n_X12_441 : Cond.constant RX12 441 (-200000) ∈ tbl2 := inT_mem (i := 1862) (by decide +kernel)
theorem n_X12_454 : Cond.constant RX12 454 (-1000000) ∈ tbl2 := inT_mem (i := 1895) (by decide +kernel)
theorem n_X12_455 : Cond.constant RX12 455 (-2000000) ∈ tbl2 := inT_mem (i := 1896) (by decide +kernel)
theorem n_X10_45 : Cond.constantLong RX10 45 (2000) ∈ tbl2 := inT_mem (i := 896) (by decide +kernel)
theorem n_X8_93 : Cond.constantLong RX8 93 (1103515245) ∈ tbl2 := inT_mem (i := 1202) (by decide +kernel)
theorem n_X8_95 : Cond.constantLong RX8 95 (12345) ∈ tbl2 := inT_mem (i := 1203) (by decide +kernel)
theorem n_X8_97 : Cond.constantLong RX8 97 (2147483647) ∈ tbl2 := inT_mem (i := 1204) (by decide +kernel)
theorem n_X8_99 : Cond.constantLong RX8 99 (64) ∈ tbl2 := inT_mem (i := 1205) (by decide +kernel)
theorem n_X12_126 : Cond.constantLong RX12 126 (97) ∈ tbl2 := inT_mem (i := 1510) (by decide +kernel)
theorem n_X12_128 : Cond.constantLong RX12 128 (122) ∈ tbl2 := inT_mem (i := 1511) (by decide +kernel)
theorem n_X12_130 : Cond.constantLong RX12 130 (48) ∈ tbl2 := inT_mem (i := 1512) (by decide +kernel)
theorem n_X12_132 : Cond.constantLong RX12 132 (57) ∈ tbl2 := inT_mem (i := 1513) (by decide +kernel)
theorem n_X12_175 : Cond.constantLong RX12 175 (99999) ∈ tbl2 := inT_mem (i := 1563) (by decide +kernel)
theorem n_X12_323 : Cond.constantLong RX12 323 (5) ∈ tbl2 := inT_mem (i := 1647) (by decide +kernel)
theorem n_X12_332 : Cond.constantLong RX12 332 (100) ∈ tbl2 := inT_mem (i := 1663) (by decide +kernel)
theorem n_X12_328 : Cond.constantLong RX12 328 (4000) ∈ tbl2 := inT_mem (i := 1667) (by decide +kernel)
theorem n_X12_330 : Cond.constantLong RX12 330 (2) ∈ tbl2 := inT_mem (i := 1668) (by decide +kernel)
theorem n_X12_342 : Cond.constantLong RX12 342 (2000) ∈ tbl2 := inT_mem (i := 1673) (by decide +kernel)
theorem n_X12_428 : Cond.constantLong RX12 428 (999) ∈ tbl2 := inT_mem (i := 1832) (by decide +kernel)
theorem n_X12_446 : Cond.constantLong RX12 446 (60) ∈ tbl2 := inT_mem (i := 1853) (by decide +kernel)
theorem n_X12_462 : Cond.constantLong RX12 462 (1103515245) ∈ tbl2 := inT_mem (i := 1933) (by decide +kernel)
theorem n_X12_468 : Cond.constantLong RX12 468 (12345) ∈ tbl2 := inT_mem (i := 1934) (by decide +kernel)
theorem n_X12_470 : Cond.constantLong RX12 470 (2147483648) ∈ tbl2 := inT_mem (i := 1935) (by decide +kernel)
theorem n_X12_472 : Cond.constantLong RX12 472 (64) ∈ tbl2 := inT_mem (i := 1936) (by decide +kernel)
theorem n_X12_481 : Cond.constantLong RX12 481 (40) ∈ tbl2 := inT_mem (i := 1945) (by decide +kernel)
theorem n_X12_483 : Cond.constantLong RX12 483 (2147483647) ∈ tbl2 := inT_mem (i := 1946) (by decide +kernel)
end
section
/-! the cells of a TenTrials and of a TenTrialsModel behind it, in the order in which they are made -/
def NN : Nat := 197
def shL : List (Nat × Nat) := [(11, 12), (21, 1200), (3, 2), (21, 64), (4, 8), (9, 5), (24, 1201), (20, 1201), (20, 1201), (24, 42), (1, 8), (25, 10), (20, 80), (20, 80), (20, 80), (0, 8), (20, 4), (20, 5), (20, 1200), (20, 64), (10, 9), (20, 8), (20, 8), (10, 9), (20, 8), (20, 8), (10, 9), (20, 8), (20, 8), (10, 9), (20, 8), (20, 8), (10, 9), (20, 8), (20, 8), (10, 9), (20, 8), (20, 8), (10, 9), (20, 8), (20, 8), (10, 9), (20, 8), (20, 8), (10, 9), (20, 8), (20, 8), (10, 9), (20, 8), (20, 8), (2, 5), (20, 10), (20, 10), (20, 10), (20, 10), (1, 8), (25, 10), (20, 80), (20, 80), (20, 80), (0, 8), (20, 4), (20, 5), (20, 1200), (20, 64), (10, 9), (20, 8), (20, 8), (10, 9), (20, 8), (20, 8), (10, 9), (20, 8), (20, 8), (10, 9), (20, 8), (20, 8), (10, 9), (20, 8), (20, 8), (10, 9), (20, 8), (20, 8), (10, 9), (20, 8), (20, 8), (10, 9), (20, 8), (20, 8), (10, 9), (20, 8), (20, 8), (10, 9), (20, 8), (20, 8), (5, 9), (20, 10), (22, 10), (8, 6), (26, 8), (20, 80), (5, 9), (20, 10), (22, 10), (5, 9), (20, 10), (22, 10), (5, 9), (20, 10), (22, 10), (5, 9), (20, 10), (22, 10), (5, 9), (20, 10), (22, 10), (5, 9), (20, 10), (22, 10), (5, 9), (20, 10), (22, 10), (5, 9), (20, 10), (22, 10), (6, 3), (27, 10), (20, 61), (20, 61), (20, 61), (20, 61), (20, 61), (20, 61), (20, 61), (20, 61), (20, 61), (20, 61), (27, 10), (20, 61), (20, 61), (20, 61), (20, 61), (20, 61), (20, 61), (20, 61), (20, 61), (20, 61), (20, 61), (6, 3), (27, 10), (20, 61), (20, 61), (20, 61), (20, 61), (20, 61), (20, 61), (20, 61), (20, 61), (20, 61), (20, 61), (27, 10), (20, 61), (20, 61), (20, 61), (20, 61), (20, 61), (20, 61), (20, 61), (20, 61), (20, 61), (20, 61), (20, 10), (12, 48), (20, 220), (20, 4), (20, 5), (20, 1300), (20, 80), (20, 80), (20, 80), (20, 220), (20, 4), (20, 5), (20, 1300), (20, 80), (20, 80), (20, 80), (21, 1200), (20, 80), (22, 80), (23, 1300), (20, 671), (20, 488), (20, 549), (20, 80), (20, 2420), (21, 200)]
def SH (a : Nat) : Nat × Nat := (nth shL a).getD (99, 0)
def rfL : List (List (Option Nat)) := [[some 1, none, some 2, some 4, some 50, none, none, some 95, some 98, some 125, some 148, some 171], [], [some 3], [], [none, none, some 5], [some 6, some 7, some 8, none, some 9], [], [], [], [some 1000, some 1001, some 1002, some 1003, some 1004, some 1005, some 1006, some 1007, some 1008, some 1009, some 1010, some 1011, some 1012, some 1013, some 1014, some 1015, some 1016, some 1017, some 1018, some 1019, some 1020, some 1021, some 1022, some 1023, some 1024, some 1025, some 1026, some 1027, some 1028, some 1029, some 1030, some 1031, some 1032, some 1033, some 1034, some 1035, some 1036, some 1037, some 1038, some 1039, some 1040, some 1041], [some 11, some 12, some 13, some 14, some 15], [some 20, some 23, some 26, some 29, some 32, some 35, some 38, some 41, some 44, some 47], [], [], [], [some 16, none, some 17, some 18, none, none, some 19], [], [], [], [], [none, none, none, none, none, none, none, some 21, some 22], [], [], [none, none, none, none, none, none, none, some 24, some 25], [], [], [none, none, none, none, none, none, none, some 27, some 28], [], [], [none, none, none, none, none, none, none, some 30, some 31], [], [], [none, none, none, none, none, none, none, some 33, some 34], [], [], [none, none, none, none, none, none, none, some 36, some 37], [], [], [none, none, none, none, none, none, none, some 39, some 40], [], [], [none, none, none, none, none, none, none, some 42, some 43], [], [], [none, none, none, none, none, none, none, some 45, some 46], [], [], [none, none, none, none, none, none, none, some 48, some 49], [], [], [some 51, some 52, some 53, some 54], [], [], [], [], [some 56, some 57, some 58, some 59, some 60], [some 65, some 68, some 71, some 74, some 77, some 80, some 83, some 86, some 89, some 92], [], [], [], [some 61, none, some 62, some 63, none, none, some 64], [], [], [], [], [none, none, none, none, none, none, none, some 66, some 67], [], [], [none, none, none, none, none, none, none, some 69, some 70], [], [], [none, none, none, none, none, none, none, some 72, some 73], [], [], [none, none, none, none, none, none, none, some 75, some 76], [], [], [none, none, none, none, none, none, none, some 78, some 79], [], [], [none, none, none, none, none, none, none, some 81, some 82], [], [], [none, none, none, none, none, none, none, some 84, some 85], [], [], [none, none, none, none, none, none, none, some 87, some 88], [], [], [none, none, none, none, none, none, none, some 90, some 91], [], [], [none, none, none, none, none, none, none, some 93, some 94], [], [], [some 96, some 97], [], [], [some 99, none, none, none, some 100], [some 101, some 104, some 107, some 110, some 113, some 116, some 119, some 122], [], [some 102, some 103], [], [], [some 105, some 106], [], [], [some 108, some 109], [], [], [some 111, some 112], [], [], [some 114, some 115], [], [], [some 117, some 118], [], [], [some 120, some 121], [], [], [some 123, some 124], [], [], [some 126, some 137], [some 127, some 128, some 129, some 130, some 131, some 132, some 133, some 134, some 135, some 136], [], [], [], [], [], [], [], [], [], [], [some 138, some 139, some 140, some 141, some 142, some 143, some 144, some 145, some 146, some 147], [], [], [], [], [], [], [], [], [], [], [some 149, some 160], [some 150, some 151, some 152, some 153, some 154, some 155, some 156, some 157, some 158, some 159], [], [], [], [], [], [], [], [], [], [], [some 161, some 162, some 163, some 164, some 165, some 166, some 167, some 168, some 169, some 170], [], [], [], [], [], [], [], [], [], [], [], [none, none, none, none, none, none, some 173, some 174, some 175, some 176, some 177, some 178, some 179, none, none, none, none, none, none, some 180, some 181, some 182, some 183, some 184, some 185, some 186, some 187, none, none, none, none, none, none, none, none, none, some 188, some 189, some 190, some 191, some 192, some 193, some 194, none, none, some 195, some 196], [], [], [], [], [], [], [], [], [], [], [], [], [], [], [], [], [], [], [], [], [], [], [], []]
/-- where the references lead that stay as they are -/
def rfx (a k : Nat) : Option Nat := (nth ((nth rfL a).getD []) k).getD none
def Lay (R : Nat → Nat → Option Nat) : Prop := ∀ a k r, rfx a k = some r → R a k = some r
abbrev wd (I : Nat → Nat → Int32) (L : Nat → Nat → Int64) (R : Nat → Nat → Option Nat) : Wd := (NN, SH, I, L, R)
def isC (c : Nat) : Prop := c = 10 ∨ c = 55
theorem sC0 {c : Nat} (h : isC c) : c < NN ∧ SH (c) = (1, 8) := by rcases h with rfl | rfl <;> exact ⟨by decide, rfl⟩
theorem sC1 {c : Nat} (h : isC c) : c + 1 < NN ∧ SH (c + 1) = (25, 10) := by rcases h with rfl | rfl <;> exact ⟨by decide, rfl⟩
theorem sC2 {c : Nat} (h : isC c) : c + 2 < NN ∧ SH (c + 2) = (20, 80) := by rcases h with rfl | rfl <;> exact ⟨by decide, rfl⟩
theorem sC3 {c : Nat} (h : isC c) : c + 3 < NN ∧ SH (c + 3) = (20, 80) := by rcases h with rfl | rfl <;> exact ⟨by decide, rfl⟩
theorem sC4 {c : Nat} (h : isC c) : c + 4 < NN ∧ SH (c + 4) = (20, 80) := by rcases h with rfl | rfl <;> exact ⟨by decide, rfl⟩
theorem sC5 {c : Nat} (h : isC c) : c + 5 < NN ∧ SH (c + 5) = (0, 8) := by rcases h with rfl | rfl <;> exact ⟨by decide, rfl⟩
theorem sC6 {c : Nat} (h : isC c) : c + 6 < NN ∧ SH (c + 6) = (20, 4) := by rcases h with rfl | rfl <;> exact ⟨by decide, rfl⟩
theorem sC7 {c : Nat} (h : isC c) : c + 7 < NN ∧ SH (c + 7) = (20, 5) := by rcases h with rfl | rfl <;> exact ⟨by decide, rfl⟩
theorem sC8 {c : Nat} (h : isC c) : c + 8 < NN ∧ SH (c + 8) = (20, 1200) := by rcases h with rfl | rfl <;> exact ⟨by decide, rfl⟩
theorem sC9 {c : Nat} (h : isC c) : c + 9 < NN ∧ SH (c + 9) = (20, 64) := by rcases h with rfl | rfl <;> exact ⟨by decide, rfl⟩
theorem rC0 {c : Nat} (h : isC c) : rfx c 0 = some (c + 1) := by rcases h with rfl | rfl <;> rfl
theorem rC1 {c : Nat} (h : isC c) : rfx c 1 = some (c + 2) := by rcases h with rfl | rfl <;> rfl
theorem rC2 {c : Nat} (h : isC c) : rfx c 2 = some (c + 3) := by rcases h with rfl | rfl <;> rfl
theorem rC3 {c : Nat} (h : isC c) : rfx c 3 = some (c + 4) := by rcases h with rfl | rfl <;> rfl
theorem rC4 {c : Nat} (h : isC c) : rfx c 4 = some (c + 5) := by rcases h with rfl | rfl <;> rfl
theorem rB0 {c : Nat} (h : isC c) : rfx (c + 5) 0 = some (c + 6) := by rcases h with rfl | rfl <;> rfl
theorem rB2 {c : Nat} (h : isC c) : rfx (c + 5) 2 = some (c + 7) := by rcases h with rfl | rfl <;> rfl
theorem rB3 {c : Nat} (h : isC c) : rfx (c + 5) 3 = some (c + 8) := by rcases h with rfl | rfl <;> rfl
theorem rB6 {c : Nat} (h : isC c) : rfx (c + 5) 6 = some (c + 9) := by rcases h with rfl | rfl <;> rfl
/-- a Trial -/
def isT (t : Nat) : Prop := ∃ c e, isC c ∧ e < 10 ∧ t = c + 10 + 3 * e
theorem isT_of {c e : Nat} (hc : isC c) (he : e < 10) : isT (c + 10 + 3 * e) := ⟨c, e, hc, he, rfl⟩
theorem rCT {c e : Nat} (hc : isC c) (he : e < 10) : rfx (c + 1) e = some (c + 10 + 3 * e) := by
  have h1 : ∀ e, e < 10 → rfx (10 + 1) e = some (10 + 10 + 3 * e) := by decide
  have h2 : ∀ e, e < 10 → rfx (55 + 1) e = some (55 + 10 + 3 * e) := by decide
  rcases hc with rfl | rfl
  · exact h1 e he
  · exact h2 e he
theorem allT : ∀ e, e < 10 → ∀ c, c = 10 ∨ c = 55 → (c + 10 + 3 * e < NN ∧ SH (c + 10 + 3 * e) = (10, 9)) ∧ (c + 10 + 3 * e + 1 < NN ∧ SH (c + 10 + 3 * e + 1) = (20, 8)) ∧ (c + 10 + 3 * e + 2 < NN ∧ SH (c + 10 + 3 * e + 2) = (20, 8)) ∧ rfx (c + 10 + 3 * e) 7 = some (c + 10 + 3 * e + 1) ∧ rfx (c + 10 + 3 * e) 8 = some (c + 10 + 3 * e + 2) := by
  intro e he c hc
  have h1 : ∀ e, e < 10 → (10 + 10 + 3 * e < NN ∧ SH (10 + 10 + 3 * e) = (10, 9)) ∧ (10 + 10 + 3 * e + 1 < NN ∧ SH (10 + 10 + 3 * e + 1) = (20, 8)) ∧ (10 + 10 + 3 * e + 2 < NN ∧ SH (10 + 10 + 3 * e + 2) = (20, 8)) ∧ rfx (10 + 10 + 3 * e) 7 = some (10 + 10 + 3 * e + 1) ∧ rfx (10 + 10 + 3 * e) 8 = some (10 + 10 + 3 * e + 2) := by decide
  have h2 : ∀ e, e < 10 → (55 + 10 + 3 * e < NN ∧ SH (55 + 10 + 3 * e) = (10, 9)) ∧ (55 + 10 + 3 * e + 1 < NN ∧ SH (55 + 10 + 3 * e + 1) = (20, 8)) ∧ (55 + 10 + 3 * e + 2 < NN ∧ SH (55 + 10 + 3 * e + 2) = (20, 8)) ∧ rfx (55 + 10 + 3 * e) 7 = some (55 + 10 + 3 * e + 1) ∧ rfx (55 + 10 + 3 * e) 8 = some (55 + 10 + 3 * e + 2) := by decide
  rcases hc with rfl | rfl
  · exact h1 e he
  · exact h2 e he
theorem sT0 {t : Nat} (h : isT t) : t < NN ∧ SH t = (10, 9) := by obtain ⟨c, e, hc, he, rfl⟩ := h; exact (allT e he c hc).1
theorem sT1 {t : Nat} (h : isT t) : t + 1 < NN ∧ SH (t + 1) = (20, 8) := by obtain ⟨c, e, hc, he, rfl⟩ := h; exact (allT e he c hc).2.1
theorem sT2 {t : Nat} (h : isT t) : t + 2 < NN ∧ SH (t + 2) = (20, 8) := by obtain ⟨c, e, hc, he, rfl⟩ := h; exact (allT e he c hc).2.2.1
theorem rT7 {t : Nat} (h : isT t) : rfx t 7 = some (t + 1) := by obtain ⟨c, e, hc, he, rfl⟩ := h; exact (allT e he c hc).2.2.2.1
theorem rT8 {t : Nat} (h : isT t) : rfx t 8 = some (t + 2) := by obtain ⟨c, e, hc, he, rfl⟩ := h; exact (allT e he c hc).2.2.2.2
/-- a Score -/
def isS (t : Nat) : Prop := t = 95 ∨ ∃ a, a < 8 ∧ t = 101 + 3 * a
theorem allS : ∀ a, a < 8 → (101 + 3 * a < NN ∧ SH (101 + 3 * a) = (5, 9)) ∧ (101 + 3 * a + 1 < NN ∧ SH (101 + 3 * a + 1) = (20, 10)) ∧ (101 + 3 * a + 2 < NN ∧ SH (101 + 3 * a + 2) = (22, 10)) ∧ rfx (101 + 3 * a) 0 = some (101 + 3 * a + 1) ∧ rfx (101 + 3 * a) 1 = some (101 + 3 * a + 2) ∧ rfx 99 a = some (101 + 3 * a) := by decide
theorem sS0 {t : Nat} (h : isS t) : t < NN ∧ SH t = (5, 9) := by
  rcases h with rfl | ⟨a, ha, rfl⟩
  · exact ⟨by decide, rfl⟩
  · exact (allS a ha).1
theorem sS1 {t : Nat} (h : isS t) : t + 1 < NN ∧ SH (t + 1) = (20, 10) := by
  rcases h with rfl | ⟨a, ha, rfl⟩
  · exact ⟨by decide, rfl⟩
  · exact (allS a ha).2.1
theorem sS2 {t : Nat} (h : isS t) : t + 2 < NN ∧ SH (t + 2) = (22, 10) := by
  rcases h with rfl | ⟨a, ha, rfl⟩
  · exact ⟨by decide, rfl⟩
  · exact (allS a ha).2.2.1
theorem rS0 {t : Nat} (h : isS t) : rfx t 0 = some (t + 1) := by
  rcases h with rfl | ⟨a, ha, rfl⟩
  · rfl
  · exact (allS a ha).2.2.2.1
theorem rS1 {t : Nat} (h : isS t) : rfx t 1 = some (t + 2) := by
  rcases h with rfl | ⟨a, ha, rfl⟩
  · rfl
  · exact (allS a ha).2.2.2.2.1
theorem rSS {a : Nat} (h : a < 8) : rfx 99 a = some (101 + 3 * a) := (allS a h).2.2.2.2.2
theorem isS_of {a : Nat} (h : a < 8) : isS (101 + 3 * a) := Or.inr ⟨a, h, rfl⟩
/-- a Shares -/
def isH (q : Nat) : Prop := q = 125 ∨ q = 148
theorem sH0 {q : Nat} (h : isH q) : q < NN ∧ SH q = (6, 3) := by rcases h with rfl | rfl <;> exact ⟨by decide, rfl⟩
theorem sH1 {q : Nat} (h : isH q) : q + 1 < NN ∧ SH (q + 1) = (27, 10) := by rcases h with rfl | rfl <;> exact ⟨by decide, rfl⟩
theorem sH12 {q : Nat} (h : isH q) : q + 12 < NN ∧ SH (q + 12) = (27, 10) := by rcases h with rfl | rfl <;> exact ⟨by decide, rfl⟩
theorem rH0 {q : Nat} (h : isH q) : rfx q 0 = some (q + 1) := by rcases h with rfl | rfl <;> rfl
theorem rH1 {q : Nat} (h : isH q) : rfx q 1 = some (q + 12) := by rcases h with rfl | rfl <;> rfl
theorem sHrA {q i : Nat} (h : isH q) (hi : i < 10) : q + 2 + i < NN ∧ SH (q + 2 + i) = (20, 61) := by
  have h1 : ∀ i, i < 10 → 125 + 2 + i < NN ∧ SH (125 + 2 + i) = (20, 61) := by decide
  have h2 : ∀ i, i < 10 → 148 + 2 + i < NN ∧ SH (148 + 2 + i) = (20, 61) := by decide
  rcases h with rfl | rfl
  · exact h1 i hi
  · exact h2 i hi
theorem rHrA {q i : Nat} (h : isH q) (hi : i < 10) : rfx (q + 1) i = some (q + 2 + i) := by
  have h1 : ∀ i, i < 10 → rfx (125 + 1) i = some (125 + 2 + i) := by decide
  have h2 : ∀ i, i < 10 → rfx (148 + 1) i = some (148 + 2 + i) := by decide
  rcases h with rfl | rfl
  · exact h1 i hi
  · exact h2 i hi
theorem sHrB {q i : Nat} (h : isH q) (hi : i < 10) : q + 13 + i < NN ∧ SH (q + 13 + i) = (20, 61) := by
  have h1 : ∀ i, i < 10 → 125 + 13 + i < NN ∧ SH (125 + 13 + i) = (20, 61) := by decide
  have h2 : ∀ i, i < 10 → 148 + 13 + i < NN ∧ SH (148 + 13 + i) = (20, 61) := by decide
  rcases h with rfl | rfl
  · exact h1 i hi
  · exact h2 i hi
theorem rHrB {q i : Nat} (h : isH q) (hi : i < 10) : rfx (q + 12) i = some (q + 13 + i) := by
  have h1 : ∀ i, i < 10 → rfx (125 + 12) i = some (125 + 13 + i) := by decide
  have h2 : ∀ i, i < 10 → rfx (148 + 12) i = some (148 + 13 + i) := by decide
  rcases h with rfl | rfl
  · exact h1 i hi
  · exact h2 i hi
theorem lit {a kd n : Nat} (h : (Nat.ble (a + 1) NN && Nat.beq (SH a).1 kd && Nat.beq (SH a).2 n) = true) : a < NN ∧ SH a = (kd, n) := by
  rw [Bool.and_eq_true, Bool.and_eq_true] at h
  exact ⟨Nat.le_of_ble_eq_true h.1.1, Prod.ext (Nat.eq_of_beq_eq_true h.1.2) (Nat.eq_of_beq_eq_true h.2)⟩
end
section
/-! numbers -/
def b2 (p : Prop) [Decidable p] : Int32 := if p then 1 else 0
theorem b2_t {p : Prop} [Decidable p] (h : p) : nI 1 = b2 p := by rw [b2, if_pos h]; rfl
theorem b2_f {p : Prop} [Decidable p] (h : ¬ p) : nI 0 = b2 p := by rw [b2, if_neg h]; rfl
theorem isB_b2 (p : Prop) [Decidable p] : isB (b2 p) := by by_cases h : p <;> simp [b2, h, isB]
theorem isB_1 : isB (nI 1) := Or.inr rfl
theorem isB_0 : isB (nI 0) := Or.inl rfl
theorem b2_ne {p : Prop} [Decidable p] (h : ¬ b2 p = 0) : p := by
  by_cases hp : p
  · exact hp
  · exact absurd (by rw [b2, if_neg hp]) h
theorem b2_eq {p : Prop} [Decidable p] (h : b2 p = 0) : ¬ p := fun hp => by rw [b2, if_pos hp] at h; exact absurd h (by decide)
theorem b2_one {p : Prop} [Decidable p] (h : p) : ¬ b2 p = 0 := by rw [b2, if_pos h]; decide
theorem b2_zero {p : Prop} [Decidable p] (h : ¬ p) : b2 p = 0 := by rw [b2, if_neg h]
theorem b2_congr {p q : Prop} [Decidable p] [Decidable q] (h : p ↔ q) : b2 p = b2 q := by
  by_cases hp : p
  · rw [b2, b2, if_pos hp, if_pos (h.mp hp)]
  · rw [b2, b2, if_neg hp, if_neg (fun z => hp (h.mpr z))]
theorem pv_i {v v' : Int32} {w : Wd} (h : v = v') : pV (.int v') w (some (.int v)) w := ⟨by rw [h], rfl⟩
theorem pv_l {v v' : Int64} {w : Wd} (h : v = v') : pV (.long v') w (some (.long v)) w := ⟨by rw [h], rfl⟩
theorem i_lt {a b : Int32} : a < b ↔ a.toInt < b.toInt := Int32.lt_iff_toInt_lt
theorem i_le {a b : Int32} : a ≤ b ↔ a.toInt ≤ b.toInt := Int32.le_iff_toInt_le
theorem i_eq {a b : Int32} : a = b ↔ a.toInt = b.toInt := Int32.toInt_inj.symm
theorem i_rng (a : Int32) : -2147483648 ≤ a.toInt ∧ a.toInt ≤ 2147483647 := ⟨Int32.le_toInt a, by have := Int32.toInt_lt a; omega⟩
theorem i_add {a b : Int32} (h1 : -2147483648 ≤ a.toInt + b.toInt) (h2 : a.toInt + b.toInt ≤ 2147483647) : (a + b).toInt = a.toInt + b.toInt := by
  rw [Int32.toInt_add]
  exact Int.bmod_eq_of_le (by omega) (by omega)
theorem i_sub {a b : Int32} (h1 : -2147483648 ≤ a.toInt - b.toInt) (h2 : a.toInt - b.toInt ≤ 2147483647) : (a - b).toInt = a.toInt - b.toInt := by
  rw [Int32.toInt_sub]
  exact Int.bmod_eq_of_le (by omega) (by omega)
theorem i_mul {a b : Int32} (h1 : -2147483648 ≤ a.toInt * b.toInt) (h2 : a.toInt * b.toInt ≤ 2147483647) : (a * b).toInt = a.toInt * b.toInt := by
  rw [Int32.toInt_mul]
  exact Int.bmod_eq_of_le (by omega) (by omega)
theorem l_lt {a b : Int64} : a < b ↔ a.toInt < b.toInt := Int64.lt_iff_toInt_lt
theorem l_le {a b : Int64} : a ≤ b ↔ a.toInt ≤ b.toInt := Int64.le_iff_toInt_le
theorem l_eq {a b : Int64} : a = b ↔ a.toInt = b.toInt := Int64.toInt_inj.symm
theorem l_add {a b : Int64} (h1 : -9223372036854775808 ≤ a.toInt + b.toInt) (h2 : a.toInt + b.toInt ≤ 9223372036854775807) : (a + b).toInt = a.toInt + b.toInt := by
  rw [Int64.toInt_add]
  exact Int.bmod_eq_of_le (by omega) (by omega)
theorem l_sub {a b : Int64} (h1 : -9223372036854775808 ≤ a.toInt - b.toInt) (h2 : a.toInt - b.toInt ≤ 9223372036854775807) : (a - b).toInt = a.toInt - b.toInt := by
  rw [Int64.toInt_sub]
  exact Int.bmod_eq_of_le (by omega) (by omega)
theorem l_mul {a b : Int64} (h1 : -9223372036854775808 ≤ a.toInt * b.toInt) (h2 : a.toInt * b.toInt ≤ 9223372036854775807) : (a * b).toInt = a.toInt * b.toInt := by
  rw [Int64.toInt_mul]
  exact Int.bmod_eq_of_le (by omega) (by omega)
theorem i_l (a : Int32) : a.toInt64.toInt = a.toInt := Int32.toInt_toInt64 a
theorem l_i {a : Int64} (h1 : -2147483648 ≤ a.toInt) (h2 : a.toInt ≤ 2147483647) : a.toInt32.toInt = a.toInt := by
  rw [Int64.toInt_toInt32]
  exact Int.bmod_eq_of_le (by omega) (by omega)
theorem i_div {a b : Int32} (h : 0 ≤ a.toInt) (hb : 0 < b.toInt) : (a / b).toInt = a.toInt / b.toInt := by
  have h2 : ¬ (a = Int32.minValue ∧ b = -1) := fun z => by rw [z.1] at h; exact absurd h (by decide)
  have e := Int32.toInt_div_of_ne_left a b (fun z => h2 ⟨z, by
    exfalso
    rw [z] at h
    exact absurd h (by decide)⟩)
  rw [e, Int.tdiv_eq_ediv_of_nonneg h]
theorem l_div {a b : Int64} (h : 0 ≤ a.toInt) (hb : 0 < b.toInt) : (a / b).toInt = a.toInt / b.toInt := by
  have e := Int64.toInt_div_of_ne_left a b (fun z => by
    rw [z] at h
    exact absurd h (by decide))
  rw [e, Int.tdiv_eq_ediv_of_nonneg h]
theorem nI_int {n : Nat} (h : n < 2147483648) : (nI n).toInt = (n : Int) := nI_toInt h
theorem i_nat {a : Int32} (h : 0 ≤ a.toInt) : ∃ n : Nat, n < 2147483648 ∧ a = nI n ∧ a.toInt = n := by
  have hr := i_rng a
  refine ⟨a.toInt.toNat, by omega, ?_, by omega⟩
  rw [i_eq, nI_int (by omega)]
  omega
/-- places -/
theorem ix_n {k n : Nat} (h : k < n) (hn : n ≤ 2147483648) : ix (nI k) k n := ⟨nI_int (by omega), h⟩
theorem ix_t {i : Int32} {k n : Nat} (h : i.toInt = (k : Int)) (hk : k < n) : ix i k n := ⟨h, hk⟩
theorem ix_cell {a e : Nat} (ha : a < 8) (he : e < 10) : ix (nI a * nI 10 + nI e) (a * 10 + e) 80 := by
  rw [pk_mul, nI_add]
  exact ix_n (by omega) (by decide)
theorem ix_cell' {a e : Nat} (ha : a < 8) (he : e < 10) : ix (nI 10 * nI a + nI e) (10 * a + e) 80 := by
  rw [pk_mul, nI_add]
  exact ix_n (by omega) (by decide)
theorem j_iinc1 {Z : ZT} {G : GT} {mi : MI} {own : String} {cs : Nat × Nat} {pc : Nat} {ls : LV} {st : List Value} {w : Wd} (C : CX Z G mi own) {k9 k : Nat} (hd : decode mi.2.1 pc = .ok (.iinc k9 1, 3)) (hn : Nat.ble (k9 + 1) mi.2.2.1 = true) (hg : lg ls k9 = some (.int (nI k))) (kk : J Z cs (pc + 3) (lset ls k9 (.int (nI (k + 1)))) st w) : J Z cs pc ls st w :=
  j_iinc C hd hn hg (nI_1 k) kk
end
section
/-! making cells: the next cell is number N; its places hold 0 and null before it is made -/
theorem HW_push {G : GT} {N : Nat} {sh : Nat → Nat × Nat} {I : Nat → Nat → Int32} {L : Nat → Nat → Int64} {R : Nat → Nat → Option Nat} {H H1 : Heap} (hH : HW G (N, sh, I, L, R) H) (hz : H1.size = H.size + 1) (ho : ∀ q, q < H.size → H1[q]? = H[q]?) (hN : Nat.ble (N + 2) 1000 = true) (ha : va_at (gD G) cls (gb G + N, ent G sh I L R N) H1) : HW G (N + 1, sh, I, L, R) H1 := by
  have hN := Nat.le_of_ble_eq_true hN
  have hsz : H.size = gb G + N := hH.2.1
  refine ⟨fun k q hk => ?_, ?_, ?_⟩
  · obtain ⟨h1, rfl⟩ := wsOf_in hk
    have h1 : k < N + 1 := h1
    by_cases h : k < N
    · exact (hH.1 k _ (wsOf_at (w := (N, sh, I, L, R)) h)).kept (ho _ (by rw [hsz]; show gb G + k < gb G + N; omega))
    · have : k = N := by omega
      subst this
      exact ha
  · rw [hz, hsz]
    show gb G + N + 1 = gb G + (N + 1)
    omega
  · show N + 1 < 1000
    omega
theorem vs_push {A : Nat → Prop} {H0 H H1 : Heap} {locs : List Loc} (hS : va_S A H0 H locs) (hz : H1.size = H.size + 1) (ho : ∀ q, q < H.size → H1[q]? = H[q]?) : va_S A H0 H1 locs := ⟨Nat.le_trans hS.1 (by omega), fun x h1 h2 => (ho x (Nat.lt_of_lt_of_le h1 hS.1)).trans (hS.2.1 x h1 h2), hS.2.2⟩
/-- the kind of a type's first value -/
def kdt : FieldType → Nat
  | .long => 1
  | .object _ => 2
  | .array _ => 2
  | .float => 9
  | .double => 9
  | _ => 0
theorem dv_ok {G : GT} {I : Nat → Nat → Int32} {L : Nat → Nat → Int64} {R : Nat → Nat → Option Nat} {a ci k : Nat} {t : FieldType} (h : fk ci k = kdt t ∧ kdt t < 3) (hI : I a k = 0) (hL : L a k = 0) (hR : R a k = none) : defaultValue t = fv G I L R a ci k := by
  unfold fv
  rw [h.1]
  cases t with
  | float => exact absurd h.2 (by decide)
  | double => exact absurd h.2 (by decide)
  | long => show Value.long 0 = Value.long (L a k); rw [hL]
  | object c => show Value.null = rv G (R a k); rw [hR]; rfl
  | array c => show Value.null = rv G (R a k); rw [hR]; rfl
  | _ => show Value.int 0 = Value.int (I a k); rw [hI]
section ALLOC
variable {Z : ZT} {G : GT} {mi : MI} {own : String} {cs : Nat × Nat} {pc : Nat} {ls : LV} {st : List Value} {N d mc ms : Nat} {sh : Nat → Nat × Nat} {I : Nat → Nat → Int32} {L : Nat → Nat → Int64} {R : Nat → Nat → Option Nat}
theorem j_new (C : CX Z G mi own) (B : RB Z d mc ms) {c : String} {T : u_T} {ty : Nat → FieldType} {ci n idx : Nat} (hc : cls[ci]? = some (c, T, n)) (hu : ∀ w ∈ u_ws c T n, w ∈ tbl2) (hty : ∀ k, k < n → parseFieldDescriptor (T k).2.2.1 = some (ty k)) (hdf : ∀ k, k < n → fk ci k = kdt (ty k) ∧ kdt (ty k) < 3) (hci : Nat.blt ci 20 = true)
    (h2 : Cond.instantiable c n ∈ tbl2) (h3 : Cond.initialized c ∈ tbl2) (h1 : Cond.classLink own idx c ∈ tbl2) (hs : sh N = (ci, n)) (hI : ∀ k, I N k = 0) (hL : ∀ k, L N k = 0) (hR : ∀ k, R N k = none) (hN : Nat.ble (N + 2) 1000 = true) (hcs : cs.1 + 1 ≤ mc ∧ cs.2 + n ≤ ms) (hd : decode mi.2.1 pc = .ok (.new idx, 3))
    (kk : J Z (cs.1 + 1, cs.2 + n) (pc + 3) ls (.ref (ra G N) :: st) (N + 1, sh, I, L, R)) : J Z cs pc ls st (N, sh, I, L, R) := by
  intro H locs la hH hS hl
  have hG : zG Z = G := C.2.2.1
  rw [hG] at hH hS
  have hts := C.2.2.2.2.2.2.1
  have hK := C.2.2.2.2.2.2.2.2.1.1
  have hKn := hK.1 ci _ hc
  have hsz : H.size = gb G + N := hH.2.1
  refine W.newcK C.1 C.2.1 C.2.2.2.2.2.1 (hts _ h1) (hts _ h2) (hts _ h3) rfl hd (Nat.le_trans hcs.1 B.2.2.1) (Nat.le_trans hcs.2 B.2.2.2) hKn.2.1 hsz fun H1 kC hkC e1 z1 o1 => ?_
  have hz : H1.size = H.size + 1 := by rw [hsz]; exact z1
  have ho : ∀ q, q < H.size → H1[q]? = H[q]? := by rw [hsz]; exact o1
  have hb : va_at (gD G) cls (gb G + N, ent G sh I L R N) H1 := by
    rw [ent_obj hs (Nat.le_of_ble_eq_true hci)]
    refine ⟨_, hc, (u_born ty hts hu hKn hkC e1 hty).to (fun j hj => ?_)⟩
    show defaultValue (ty j) = ((List.range n).map (fv G I L R N ci)).getD j .null
    rw [List.getD_eq_getElem?_getD, rg_at hj]
    exact dv_ok (hdf j hj) (hI j) (hL j) (hR j)
  have h := kk H1 locs la (by rw [hG]; exact HW_push hH hz ho hN hb) (by rw [hG]; exact vs_push hS hz ho) hl
  rw [ra_lt G (show N < 1000 from hH.2.2)] at h
  exact h
/-- arrays of int, byte, boolean -/
theorem j_newI (C : CX Z G mi own) (B : RB Z d mc ms) {kd n : Nat} {x : Int32} {a9 : ArrayType} (hk : kd < 3) (ht : (tysL G)[kd]? = some (gA G kd, newarray.typeOf a9)) (hdv : defaultValue (newarray.typeOf a9) = .int 0) (hra : ∀ (U : State) (cA : ClassId), va_RA U cA (newarray.typeOf a9) → U.vm.findClass ("[" ++ (newarray.typeOf a9).toString) = some cA)
    (harr : Cond.arrayClass (newarray.typeOf a9) ∈ tbl2) (hby : Nat.ble (n * componentBytes (newarray.typeOf a9)) 536870912 = true) (hx0 : ¬ x < 0) (hxn : x.toNatClampNeg = n) (hs : sh N = (20 + kd, n)) (hI : ∀ k, I N k = 0) (hN : Nat.ble (N + 2) 1000 = true) (hcs : cs.1 + 1 ≤ mc ∧ cs.2 + n ≤ ms) (hd : decode mi.2.1 pc = .ok (.newarray a9, 2))
    (kk : J Z (cs.1 + 1, cs.2 + n) (pc + 2) ls (.ref (ra G N) :: st) (N + 1, sh, I, L, R)) : J Z cs pc ls (.int x :: st) (N, sh, I, L, R) := by
  intro H locs la hH hS hl
  have hG : zG Z = G := C.2.2.1
  rw [hG] at hH hS
  have hts := C.2.2.2.2.2.2.1
  have hK := C.2.2.2.2.2.2.2.2.1.1
  have hsz : H.size = gb G + N := hH.2.1
  refine va_newaK C.1 C.2.1 (hts _ harr) rfl hd rfl hx0 hxn (Nat.le_of_ble_eq_true hby) (Nat.le_trans hcs.1 B.2.2.1) (Nat.le_trans hcs.2 B.2.2.2) hsz fun H1 cA e1 z1 o1 hAr hNm => ?_
  have hcA : cA = gA G kd := Option.some.inj (hNm.symm.trans (hra _ _ (hK.2 kd _ ht).2))
  subst hcA
  have hz : H1.size = H.size + 1 := by rw [hsz]; exact z1
  have ho : ∀ q, q < H.size → H1[q]? = H[q]? := by rw [hsz]; exact o1
  have hb : va_at (gD G) cls (gb G + N, ent G sh I L R N) H1 := by
    rw [ent_int hs hk]
    show H1[gb G + N]? = some (vp_cell (gA G kd) (n, .inl (I N)))
    rw [e1, vp_cell_i, hdv]
    congr 2
    funext j
    rw [hI]
  have h := kk H1 locs la (by rw [hG]; exact HW_push hH hz ho hN hb) (by rw [hG]; exact vs_push hS hz ho) hl
  rw [ra_lt G (show N < 1000 from hH.2.2)] at h
  exact h
theorem j_newint (C : CX Z G mi own) (B : RB Z d mc ms) {n : Nat} {x : Int32} (hby : Nat.ble (n * 4) 536870912 = true) (hx0 : ¬ x < 0) (hxn : x.toNatClampNeg = n) (hs : sh N = (20, n)) (hI : ∀ k, I N k = 0) (hN : Nat.ble (N + 2) 1000 = true) (hcs : cs.1 + 1 ≤ mc ∧ cs.2 + n ≤ ms) (hd : decode mi.2.1 pc = .ok (.newarray .int, 2))
    (kk : J Z (cs.1 + 1, cs.2 + n) (pc + 2) ls (.ref (ra G N) :: st) (N + 1, sh, I, L, R)) : J Z cs pc ls (.int x :: st) (N, sh, I, L, R) :=
  j_newI C B (kd := 0) (a9 := .int) (by decide) rfl rfl (fun _ _ h => h) (inT_mem (i := 204) (by decide +kernel)) hby hx0 hxn hs hI hN hcs hd kk
theorem j_newbyte (C : CX Z G mi own) (B : RB Z d mc ms) {n : Nat} {x : Int32} (hby : Nat.ble (n * 1) 536870912 = true) (hx0 : ¬ x < 0) (hxn : x.toNatClampNeg = n) (hs : sh N = (21, n)) (hI : ∀ k, I N k = 0) (hN : Nat.ble (N + 2) 1000 = true) (hcs : cs.1 + 1 ≤ mc ∧ cs.2 + n ≤ ms) (hd : decode mi.2.1 pc = .ok (.newarray .byte, 2))
    (kk : J Z (cs.1 + 1, cs.2 + n) (pc + 2) ls (.ref (ra G N) :: st) (N + 1, sh, I, L, R)) : J Z cs pc ls (.int x :: st) (N, sh, I, L, R) :=
  j_newI C B (kd := 1) (a9 := .byte) (by decide) rfl rfl (fun _ _ h => h) (inT_mem (i := 157) (by decide +kernel)) hby hx0 hxn hs hI hN hcs hd kk
theorem j_newbool (C : CX Z G mi own) (B : RB Z d mc ms) {n : Nat} {x : Int32} (hby : Nat.ble (n * 1) 536870912 = true) (hx0 : ¬ x < 0) (hxn : x.toNatClampNeg = n) (hs : sh N = (22, n)) (hI : ∀ k, I N k = 0) (hN : Nat.ble (N + 2) 1000 = true) (hcs : cs.1 + 1 ≤ mc ∧ cs.2 + n ≤ ms) (hd : decode mi.2.1 pc = .ok (.newarray .boolean, 2))
    (kk : J Z (cs.1 + 1, cs.2 + n) (pc + 2) ls (.ref (ra G N) :: st) (N + 1, sh, I, L, R)) : J Z cs pc ls (.int x :: st) (N, sh, I, L, R) :=
  j_newI C B (kd := 2) (a9 := .boolean) (by decide) rfl rfl (fun _ _ h => h) (inT_mem (i := 448) (by decide +kernel)) hby hx0 hxn hs hI hN hcs hd kk
theorem j_newlong (C : CX Z G mi own) (B : RB Z d mc ms) {n : Nat} {x : Int32} (hby : Nat.ble (n * 8) 536870912 = true) (hx0 : ¬ x < 0) (hxn : x.toNatClampNeg = n) (hs : sh N = (23, n)) (hL : ∀ k, L N k = 0) (hN : Nat.ble (N + 2) 1000 = true) (hcs : cs.1 + 1 ≤ mc ∧ cs.2 + n ≤ ms) (hd : decode mi.2.1 pc = .ok (.newarray .long, 2))
    (kk : J Z (cs.1 + 1, cs.2 + n) (pc + 2) ls (.ref (ra G N) :: st) (N + 1, sh, I, L, R)) : J Z cs pc ls (.int x :: st) (N, sh, I, L, R) := by
  intro H locs la hH hS hl
  have hG : zG Z = G := C.2.2.1
  rw [hG] at hH hS
  have hts := C.2.2.2.2.2.2.1
  have hK := C.2.2.2.2.2.2.2.2.1.1
  have hsz : H.size = gb G + N := hH.2.1
  have harr : Cond.arrayClass (newarray.typeOf .long) ∈ tbl2 := inT_mem (i := 1482) (by decide +kernel)
  refine va_newaK C.1 C.2.1 (hts _ harr) rfl hd rfl hx0 hxn (Nat.le_of_ble_eq_true hby) (Nat.le_trans hcs.1 B.2.2.1) (Nat.le_trans hcs.2 B.2.2.2) hsz fun H1 cA e1 z1 o1 hAr hNm => ?_
  have hq : (zs Z).vm.findClass ("[" ++ (newarray.typeOf .long).toString) = some (gA G 3) := (hK.2 3 (gA G 3, .long) rfl).2
  have hcA : cA = gA G 3 := Option.some.inj (hNm.symm.trans hq)
  subst hcA
  have hz : H1.size = H.size + 1 := by rw [hsz]; exact z1
  have ho : ∀ q, q < H.size → H1[q]? = H[q]? := by rw [hsz]; exact o1
  have hb : va_at (gD G) cls (gb G + N, ent G sh I L R N) H1 := by
    rw [ent_long hs]
    show H1[gb G + N]? = some (vp_cell (gA G 3) (n, .inr (.inl (L N))))
    rw [e1, vp_cell_l]
    congr 2
    funext j
    rw [hL]
    rfl
  have h := kk H1 locs la (by rw [hG]; exact HW_push hH hz ho hN hb) (by rw [hG]; exact vs_push hS hz ho) hl
  rw [ra_lt G (show N < 1000 from hH.2.2)] at h
  exact h
/-- arrays of references -/
theorem j_anew (C : CX Z G mi own) (B : RB Z d mc ms) {kd n idx : Nat} {x : Int32} {c : String} (ht : (tysL G)[4 + kd]? = some (gA G (4 + kd), .object c)) (hao : va_AO c (zs Z)) (hlk : Cond.classLink own idx c ∈ tbl2) (hby : Nat.ble (n * 4) 536870912 = true) (hx0 : ¬ x < 0) (hxn : x.toNatClampNeg = n) (hs : sh N = (24 + kd, n)) (hR : ∀ k, R N k = none) (hN : Nat.ble (N + 2) 1000 = true) (hcs : cs.1 + 1 ≤ mc ∧ cs.2 + n ≤ ms) (hd : decode mi.2.1 pc = .ok (.anewarray idx, 3))
    (kk : J Z (cs.1 + 1, cs.2 + n) (pc + 3) ls (.ref (ra G N) :: st) (N + 1, sh, I, L, R)) : J Z cs pc ls (.int x :: st) (N, sh, I, L, R) := by
  intro H locs la hH hS hl
  have hG : zG Z = G := C.2.2.1
  rw [hG] at hH hS
  have hts := C.2.2.2.2.2.2.1
  have hK := C.2.2.2.2.2.2.2.2.1.1
  have hsz : H.size = gb G + N := hH.2.1
  subst hxn
  refine W.anew C.1 C.2.1 C.2.2.2.2.2.1 (hts _ hlk) (va_AO.use hao) rfl hd rfl hx0 (Nat.le_of_ble_eq_true hby) (Nat.le_trans hcs.1 B.2.2.1) (Nat.le_trans hcs.2 B.2.2.2) fun cA kA comp f1 f2 f3 f4 => ?_
  obtain ⟨kA', comp', -, -, -, hq⟩ := (hK.2 (4 + kd) _ ht).2
  have hcA : cA = gA G (4 + kd) := Option.some.inj (f1.symm.trans hq)
  subst hcA
  generalize hH1 : H.push ({ cls := gA G (4 + kd), slots := Array.replicate x.toNatClampNeg .null, vm := .none } : Cell) = H1
  have hz : H1.size = H.size + 1 := by rw [← hH1, Array.size_push]
  have e1 : H1[H.size]? = some (arrV (gA G (4 + kd)) x.toNatClampNeg (fun _ => .null)) := by rw [← hH1, Array.getElem?_push_size, ← arrV_new]
  have ho : ∀ q : Nat, q < H.size → H1[q]? = H[q]? := fun q hq => by rw [← hH1, Array.getElem?_push, if_neg (Nat.ne_of_lt hq)]
  have hb : va_at (gD G) cls (gb G + N, ent G sh I L R N) H1 := by
    rw [ent_ref hs]
    show H1[gb G + N]? = some (vp_cell (gA G (4 + kd)) (x.toNatClampNeg, .inr (.inr (.inr (.inr (fun j => (R N j).map (ra G)))))))
    rw [← hsz, e1, vp_cell_q]
    congr 2
    funext j
    rw [hR]
    rfl
  have h := kk H1 locs la (by rw [hG]; exact HW_push hH hz ho hN hb) (by rw [hG]; exact vs_push hS hz ho) hl
  rw [ra_lt G (show N < 1000 from hH.2.2), ← hsz] at h
  exact h
/-- Object.<init> -/
theorem j_oinit (C : CX Z G mi own) (B : RB Z d mc ms) {idx a : Nat} (hlk : Cond.methodLink own idx Lib.objectInit ∈ tbl2) (hdd : Nat.ble 1 d = true) (hW : Nat.ble (cats st) 8 = true) (hd : decode mi.2.1 pc = .ok (.invokespecial idx, 3)) (kk : J Z cs (pc + 3) ls st (N, sh, I, L, R)) : J Z cs pc ls (.ref a :: st) (N, sh, I, L, R) := by
  intro H locs la hH hS hl
  have hts := C.2.2.2.2.2.2.1
  have hr := mathRoom (cs := (0, 0)) B hdd hW ⟨Nat.zero_le _, Nat.zero_le _⟩
  refine W.objInit C.1 C.2.1 C.2.2.2.2.2.1 (hts _ hlk) (hts _ (inT_mem (i := 140) (by decide +kernel))) (hts _ (inT_mem (i := 141) (by decide +kernel))) rfl (by rw [C.2.2.2.1]; exact hl.1) rfl hd hr.1 (by have := hr.2.1; show 2 * 0 + _ + 12 ≤ _; omega) (kk H locs la hH hS hl)
/-- a final field, written by its class' maker -/
theorem j_putF (C : CX Z G mi own) {idx ci n k a : Nat} {ty : FieldType} (f : FL own idx ci n k ty true) (hini : mi.1.name = "<init>") (hco : ∃ T : u_T, cls[ci]? = some (own, T, n)) (hs : a < N ∧ sh a = (ci, n)) (hc : Nat.blt ci 20 = true) {v : Value} (hn : narrow ty v = v) (hfit : fits ty v = true) (hd : decode mi.2.1 pc = .ok (.putfield idx, 3)) {I' : Nat → Nat → Int32} {L' : Nat → Nat → Int64} {R' : Nat → Nat → Option Nat} (hv : fv G I' L' R' a ci k = v) (ho : ∀ j, j ≠ k → fv G I' L' R' a ci j = fv G I L R a ci j) (hb : ∀ b, b ≠ a → ent G sh I' L' R' b = ent G sh I L R b)
    (kk : J Z cs (pc + 3) ls st (N, sh, I', L', R')) : J Z cs pc ls (v :: .ref (ra G a) :: st) (N, sh, I, L, R) := by
  intro H locs la hH hS hl
  obtain ⟨c, T, t0, f1, f2, f3, f4, f5, f6, f7, f8, f9⟩ := f
  obtain ⟨T', hco⟩ := hco
  have hcc : c = own := by
    have := f1.symm.trans hco
    injection this with this
    exact congrArg Prod.fst this
  have hG : zG Z = G := C.2.2.1
  rw [hG] at hH hS
  have he : (wsOf G (N, sh, I, L, R))[a]? = some (gb G + a, ent G sh I L R a) := wsOf_at (w := (N, sh, I, L, R)) hs.1
  rw [ent_obj hs.2 (Nat.le_of_ble_eq_true hc)] at he
  rw [ra_lt G (Nat.lt_trans hs.1 hH.2.2)]
  have hts := C.2.2.2.2.2.2.1
  have hK := C.2.2.2.2.2.2.2.2.1.1
  have hown := C.2.2.2.2.2.1
  have hnm := C.2.2.2.2.2.2.2.2.2.2
  have hP := hH.1
  have hD := wsOf_D G (N, sh, I, L, R)
  have hap := va_apart (own := own) hts f2 t0 f3 f4 hK f1
  obtain ⟨r, h1, cell, q1, q2, q3, q4⟩ := hP a _ he
  have hr : r = (c, T, n) := Option.some.inj (h1.symm.trans f1)
  subst hr
  obtain ⟨hSl, hfc, kC, hkC, hkind⟩ := hK.1 ci _ f1
  obtain ⟨cf, kf, fi, fd, hi, hsl⟩ := hSl k f5
  have hlay := hts _ (f2 _ (u_in_lay f5))
  unfold u_lay at hlay
  rw [if_pos f8] at hlay
  have hst := (u_facts hfc hkC (u_lays hts f2 f5) hi).1
  have hcf : (zm Z).cls = cf := by
    obtain ⟨_, _, c', _, _, _, -, -, hf', -, -, -, hown2, -⟩ := Cond.laysFinal_spec hlay
    have e1 : c' = cf := by have := hi.symm.trans hf'; simp at this; exact this.1.symm
    rw [f9, hcc] at hown2
    rw [← e1]
    exact Option.some.inj (hown.symm.trans hown2)
  have h6 := u_fits hfc hkC hkind (Or.inr hlay) hi f7 hn hfit
  refine W.putFinK C.1 C.2.1 hown (hts _ f6) hi hst hcf (hnm.trans hini) (by rw [q2]; exact h6) q1 q3 (by rw [hsl]; exact k2_hasslot (q4 k f5)) rfl rfl hd fun H' e1 e2 e3 => ?_
  rw [hsl] at e1 ⊢
  have hl0 : k < ((List.range n).map (fv G I L R a ci)).length := by rw [List.length_map, List.length_range]; exact f5
  have hP1 : va_P (gD G) cls ((wsOf G (N, sh, I, L, R)).set a (gb G + a, .inr (ci, ((List.range n).map (fv G I L R a ci)).set k v))) H' := hP.set hD he ⟨_, f1, t_OB.to (V := updV (vp_V ((List.range n).map (fv G I L R a ci))) k v) ⟨_, e1, q2, q3, t_set q4 hap f5 v⟩ (fun j _ => vp_updV_set hl0 v j)⟩ e3
  rw [rg_set (f := fv G I L R a ci) (g := fv G I' L' R' a ci) hv ho] at hP1
  exact kk H' _ la (by rw [hG]; exact HW_set (w' := (N, sh, I', L', R')) hH rfl hs.1 (ent_obj hs.2 (Nat.le_of_ble_eq_true hc)) hb hP1 e2) (by rw [hG]; exact hS.put e2 e3 (hD.2 a _ he)) hl
theorem j_putFr (C : CX Z G mi own) {idx ci n k a : Nat} {ty : FieldType} (f : FL own idx ci n k ty true) (hty : ty.isReference = true) (hini : mi.1.name = "<init>") (hco : ∃ T : u_T, cls[ci]? = some (own, T, n)) (hs : a < N ∧ sh a = (ci, n)) (hc : Nat.blt ci 20 = true) (hk : fk ci k = 2) (hd : decode mi.2.1 pc = .ok (.putfield idx, 3)) {r : Nat} (kk : J Z cs (pc + 3) ls st (N, sh, I, L, up2 R a k (some r))) : J Z cs pc ls (.ref (ra G r) :: .ref (ra G a) :: st) (N, sh, I, L, R) :=
  j_putF C f hini hco hs hc (by cases ty <;> first | rfl | cases hty) (by cases ty <;> first | rfl | cases hty) hd (by unfold fv; rw [hk]; show rv G (up2 R a k (some r) a k) = _; rw [up2_same]; rfl) fv_upR (fun b hb => ent_upR hb) kk
/-- the enum's array, cloned -/
def vR (R : Nat → Nat → Option Nat) (N : Nat) : Nat → Nat → Option Nat := fun a k => if a = N then (if k < 42 then some (1000 + k) else none) else R a k
theorem HW_R {R' : Nat → Nat → Option Nat} {H : Heap} (hR : ∀ a, a < N → R' a = R a) (hH : HW G (N, sh, I, L, R) H) : HW G (N, sh, I, L, R') H := by
  refine ⟨fun k q hk => ?_, hH.2.1, hH.2.2⟩
  obtain ⟨h1, rfl⟩ := wsOf_in hk
  have h1 : k < N := h1
  have h2 := hH.1 k _ (wsOf_at (w := (N, sh, I, L, R)) h1)
  have e1 := hR k h1
  have e2 : ∀ c, fv G I L R' k c = fv G I L R k c := fun c => by funext j; unfold fv; rw [e1]
  have e3 : ent G sh I L R' k = ent G sh I L R k := by unfold ent; rw [e1, e2]
  show va_at (gD G) cls (gb G + k, ent G sh I L R' k) H
  rw [e3]
  exact h2
theorem arrV_ext {c : ClassId} {n : Nat} {F F' : Nat → Value} (h : ∀ j, j < n → F j = F' j) : arrV c n F = arrV c n F' := by
  have h1 : (arrV c n F).slots = (arrV c n F').slots := by
    apply Array.ext_getElem?
    intro i
    by_cases hi : i < n
    · rw [arrV_read _ _ hi, arrV_read _ _ hi, h i hi]
    · rw [Array.getElem?_eq_none (by rw [arrV_size]; omega), Array.getElem?_eq_none (by rw [arrV_size]; omega)]
  exact congrArg (fun s9 => ({ cls := c, slots := s9, vm := .none } : Cell)) h1
theorem j_vals (C : CX Z G mi own) (B : RB Z d mc ms) {i1 i2 i3 : Nat} (hdd : Nat.ble 1 d = true) (hW : Nat.ble (cats st) 8 = true) (l1 : Cond.fieldLink own i1 "TenTrials$Sign" "$VALUES" "[LTenTrials$Sign;" ∈ tbl2) (l2 : Cond.methodLink own i2 ⟨"[LTenTrials$Sign;", "clone", "()Ljava/lang/Object;"⟩ ∈ tbl2) (l3 : Cond.classLink own i3 "[LTenTrials$Sign;" ∈ tbl2)
    (hs : sh N = (24, 42)) (hN : Nat.ble (N + 2) 1000 = true) (hcs : cs.1 + 1 ≤ mc ∧ cs.2 + 42 ≤ ms) (d1 : decode mi.2.1 pc = .ok (.getstatic i1, 3)) (d2 : decode mi.2.1 (pc + 3) = .ok (.invokevirtual i2, 3)) (d3 : decode mi.2.1 (pc + 3 + 3) = .ok (.checkcast i3, 3))
    (kk : J Z (cs.1 + 1, cs.2 + 42) (pc + 3 + 3 + 3) ls (.ref (ra G N) :: st) (N + 1, sh, I, L, vR R N)) : J Z cs pc ls st (N, sh, I, L, R) := by
  intro H locs la hH hS hl
  have hG : zG Z = G := C.2.2.1
  rw [hG] at hH hS
  have hts := C.2.2.2.2.2.2.1
  have hK := C.2.2.2.2.2.2.2.2.1.1
  have hGS := C.2.2.2.2.2.2.2.2.1.2
  have hown := C.2.2.2.2.2.1
  have hsz : H.size = gb G + N := hH.2.1
  have hr := mathRoom (cs := (0, 0)) B hdd hW ⟨Nat.zero_le _, Nat.zero_le _⟩
  obtain ⟨t, h8, h9, h10⟩ := hGS.2.2.2.2.2.2.2.1
  refine va_gets C.1 C.2.1 h8 hS hown (hts _ l1) (fun _ h => h) d1 ?_
  obtain ⟨cell, q1, q2, q3, q4, q5, q6, q7⟩ := h9
  obtain ⟨hs42, hcls⟩ := h10 cell q1
  have hcH : H[t]? = some cell := (hS.2.1 t (Array.getElem?_eq_some_iff.mp q1).1 q7).trans q1
  obtain ⟨kA, comp, k1, k2, k3, k4⟩ := (hK.2 4 (gA G 4, .object "TenTrials$Sign") rfl).2
  have hq : (zs Z).vm.findClass "[LTenTrials$Sign;" = some (gA G 4) := by
    have e : "[" ++ (FieldType.object "TenTrials$Sign").toString = "[LTenTrials$Sign;" := by decide +kernel
    rw [← e]
    exact k4
  obtain ⟨c0, t0', f1, f2, f3⟩ := Cond.castable_spec (va_Nw.use (A := za Z) rfl hGS.2.2.2.2.2.2.2.2.2.2.2.2)
  have hc0 : c0 = gA G 4 := Option.some.inj (f1.symm.trans hq)
  rw [hc0] at f3
  intro T hT X
  obtain ⟨k', hk', he'⟩ := X.warmed.alike.2.2 _ _ k1
  have hkind : k'.kind = .array comp (.object "TenTrials$Sign") := by rw [he']; exact k2
  obtain ⟨vm', X', st'⟩ := X.cloneArray C.1 hown (hts _ l2) (hts _ (inT_mem (i := 178) (by decide +kernel))) (hts _ (inT_mem (i := 179) (by decide +kernel))) (hts _ (inT_mem (i := 180) (by decide +kernel))) (hts _ (inT_mem (i := 181) (by decide +kernel))) (a := t) (cell := cell) (by rw [hT]; exact hcH) q2.1 q3 (by rw [hcls]; exact hq) f2 (by rw [hcls]; exact f3)
    (fun i v hv => by
      rw [hcls]
      have hi : i < 42 := by rw [← hs42]; exact (Array.getElem?_eq_some_iff.mp hv).1
      have hvv : v = .ref (gE G i) := Option.some.inj (hv.symm.trans (q6 i hi))
      subst hvv
      have hk'' : T.vm.classes[gA G 4]? = some k' := hk'
      simp [State.fitsSlot, State.slotType?, hk'', hkind, fits])
    (g := F0 (zm Z) (pc + 3) la (.ref t :: st)) rfl (by rw [C.2.2.2.1]; exact hl.1) rfl (by rw [C.2.1]; exact d2) hr.1 (by have := hr.2.1; show 2 * 0 + _ + 14 ≤ _; omega) (Nat.le_trans hcs.1 B.2.2.1) (by rw [hs42]; exact Nat.le_trans hcs.2 B.2.2.2) (hloader := by rw [hcls]; exact Vm.clonesLoader_of_array k1 k2)
  rw [hs42] at X'
  have hcell : ({ cls := cell.cls, slots := cell.slots } : Cell) = arrV (gA G 4) 42 (fun j => .ref (gE G j)) := by
    have h1 : cell.slots = (arrV (gA G 4) 42 (fun j => .ref (gE G j))).slots := by
      apply Array.ext_getElem?
      intro i
      by_cases hi : i < 42
      · rw [q6 i hi, arrV_read _ _ hi]
      · rw [Array.getElem?_eq_none (by omega), Array.getElem?_eq_none (by rw [arrV_size]; omega)]
    rw [h1, hcls]
    rfl
  rw [hcell] at X' st'
  generalize hH1 : H.push (arrV (gA G 4) 42 (fun j => .ref (gE G j))) = H1
  have hz : H1.size = H.size + 1 := by rw [← hH1, Array.size_push]
  have e1 : H1[H.size]? = some (arrV (gA G 4) 42 (fun j => .ref (gE G j))) := by rw [← hH1, Array.getElem?_push_size]
  have ho : ∀ q : Nat, q < H.size → H1[q]? = H[q]? := fun q hq => by rw [← hH1, Array.getElem?_push, if_neg (Nat.ne_of_lt hq)]
  have hb : va_at (gD G) cls (gb G + N, ent G sh I L (vR R N) N) H1 := by
    rw [ent_ref (kd := 0) hs]
    show H1[gb G + N]? = some (vp_cell (gA G 4) (42, .inr (.inr (.inr (.inr (fun j => (vR R N N j).map (ra G)))))))
    rw [← hsz, e1, vp_cell_q]
    have hh : ∀ j, j < 42 → va_rf ((vR R N N j).map (ra G)) = .ref (gE G j) := fun j hj => by
      unfold vR
      rw [if_pos rfl, if_pos hj]
      show Value.ref (ra G (1000 + j)) = _
      rw [ra_sgn G hj]
    exact congrArg some (arrV_ext (fun j hj => (hh j hj).symm))
  have hH' : HW G (N + 1, sh, I, L, vR R N) H1 := HW_push (HW_R (fun a ha => by unfold vR; funext k; rw [if_neg (by omega)]) hH) hz ho hN hb
  have hS' := vs_push hS hz ho
  have h := kk H1 locs la (by rw [hG]; exact hH') (by rw [hG]; exact hS') hl
  rw [ra_lt G (show N < 1000 from hH.2.2)] at h
  have ha : (wsOf G (N + 1, sh, I, L, vR R N))[N]? = some (gb G + N, .inl (gA G 4, 42, .inr (.inr (.inr (.inr (fun j => (vR R N N j).map (ra G))))))) := wsR (kd := 0) ⟨Nat.lt_succ_self _, hs⟩
  have hw := va_castA C.1 C.2.1 hown (hts _ l3) hH'.1 N ha hq d3 h
  obtain ⟨t2, b1, b2⟩ := hw ((T.setVm vm').pushCell (arrV (gA G 4) 42 (fun j => .ref (gE G j)))) (by rw [← hH1, ← hT]; rfl) X'
  refine ⟨t2, st' t2 ?_, b2⟩
  rw [hT, hsz]
  exact b1
end ALLOC
end
section
/-! an array of N arrays of M ints -/
section MULTI
variable {p : Program} {l : Launch} {e : Env} {R : Room} {s : State} {m : MethodId} {args : Array Value} {below : List Frame} {meth : Method} {c : Code} {H : Heap} {locs : List Loc} {cells slots : Nat} {Q : State → Prop}
/-- after i rows: the state but for its top frame, and where it stands -/
def mwI (p : Program) (l : Launch) (e : Env) (R : Room) (s : State) (m : MethodId) (args : Array Value) (below : List Frame) (meth : Method) (c : Code) (locs : List Loc) (cells slots : Nat) (vm1 : Vm) (H : Heap) (u : Nat) (cA comp : ClassId) (N M i : Nat) (S : State) : Prop :=
  (∃ ls', (∀ q ∈ ls', q ∈ locs ∨ q.base = H.size) ∧ Stand p l e R s m args below meth c S ls' (cells + 1 + i) (slots + N + i * M)) ∧ S.vm = vm1 ∧ S.slotsUsed = u + N + i * M ∧ S.heap.size = H.size + 1 + i ∧ (∀ q, q < H.size → S.heap[q]? = H[q]?) ∧
  (∃ oc : Cell, S.heap[H.size]? = some oc ∧ oc.cls = cA ∧ oc.vm = .none ∧ oc.slots.size = N ∧ (∀ j, j < i → oc.slots[j]? = some (.ref (H.size + 1 + j))) ∧ oc.monitor = {} ∧ oc.hash = none) ∧ ∀ j, j < i → S.heap[H.size + 1 + j]? = some { cls := comp, slots := Array.replicate M (.int 0), vm := .none }
theorem mwI_row {vm1 : Vm} {u : Nat} {cA comp : ClassId} {N M i : Nat} {S : State} (h : mwI p l e R s m args below meth c locs cells slots vm1 H u cA comp N M i S) (hi : i < N) {oc : Cell} (ho : S.heap[H.size]? = some oc) :
    mwI p l e R s m args below meth c locs cells slots vm1 H u cA comp N M (i + 1) ((S.pushCell { cls := comp, slots := Array.replicate M (.int 0), vm := .none }).setCell H.size (oc.setSlot i (.ref (H.size + 1 + i)))) := by
  obtain ⟨⟨ls', h1, X⟩, h2, h3, h4, h5, ⟨oc', g1, g2, g3, g4, g5, g8, g9⟩, h6⟩ := h
  cases g1.symm.trans ho
  have hlt : H.size < S.heap.size := by rw [h4]; omega
  have hp : (S.pushCell { cls := comp, slots := Array.replicate M (.int 0), vm := .none }).heap[H.size]? = some oc := by rw [State.heap_pushCell_of_lt (h := hlt)]; exact g1
  have X2 := (X.pushed { cls := comp, slots := Array.replicate M (.int 0), vm := .none }).stored hp i (.ref (H.size + 1 + i))
  refine ⟨⟨_, fun q hq => ?_, by simpa [Nat.succ_mul, Nat.add_assoc] using X2⟩, ?_, ?_, ?_, fun q hq => ?_, ⟨_, State.heap_setCell_self hp, g2, g3, ?_, fun j hj => ?_, g8, g9⟩, fun j hj => ?_⟩
  · rcases List.mem_append.mp hq with hq | hq
    · exact h1 q hq
    · rw [List.mem_singleton] at hq
      subst hq
      exact Or.inr rfl
  · exact h2
  · simp [h3, Nat.succ_mul]
    omega
  · simp [State.setCell, h4]
    omega
  · have hl : q < S.heap.size := by rw [h4]; omega
    rw [State.heap_setCell_other (Nat.ne_of_gt hq), State.heap_pushCell_of_lt (h := hl)]
    exact h5 q hq
  · simp [Cell.setSlot, g4]
  · simp only [Cell.setSlot, Array.getElem?_setIfInBounds]
    by_cases hji : i = j
    · subst hji
      simp [g4, hi]
    · rw [if_neg hji]
      exact g5 j (by omega)
  · rw [State.heap_setCell_other (show H.size ≠ H.size + 1 + j by omega)]
    by_cases hji : j = i
    · subst hji
      rw [← h4]
      exact State.heap_pushCell_size _ _
    · have hl : H.size + 1 + j < S.heap.size := by rw [h4]; omega
      rw [State.heap_pushCell_of_lt (h := hl)]
      exact h6 j (by omega)
def mwO (cA : ClassId) (N : Nat) : Cell := { cls := cA, slots := Array.replicate N .null, vm := .none }
def mwN (comp : ClassId) (M : Nat) : Cell := { cls := comp, slots := Array.replicate M (.int 0), vm := .none }
/-- a row made and put into its place -/
def mwR (h : Nat) (inner : Cell) (i : Nat) (S : State) : State := (S.pushCell inner).setCell h (((S.heap[h]?).getD inner).setSlot i (.ref (h + 1 + i)))
def mwS (h : Nat) (outer inner : Cell) (S : State) : Nat → State
  | 0 => S.pushCell outer
  | i + 1 => mwR h inner i (mwS h outer inner S i)
theorem mwS_I {S : State} {vm1 : Vm} {u : Nat} {cA comp : ClassId} {N M : Nat} (hS : S.vm = vm1) (hu : S.slotsUsed = u) (hH : S.heap = H) (X : Stand p l e R s m args below meth c S locs cells slots) : ∀ i, i ≤ N → mwI p l e R s m args below meth c locs cells slots vm1 H u cA comp N M i (mwS H.size (mwO cA N) (mwN comp M) S i) := by
  intro i
  induction i with
  | zero =>
    intro _
    have X1 := X.pushed (mwO cA N)
    refine ⟨⟨locs, fun q hq => Or.inl hq, by simpa [mwS, mwO] using X1⟩, hS, by simp [mwS, mwO, hu], by simp [mwS, hH], fun q hq => ?_, ⟨mwO cA N, by rw [← hH]; exact State.heap_pushCell_size _ _, rfl, rfl, by simp [mwO], fun j hj => absurd hj (Nat.not_lt_zero _), rfl, rfl⟩, fun j hj => absurd hj (Nat.not_lt_zero _)⟩
    have hl : q < S.heap.size := by rw [hH]; exact hq
    show (S.pushCell (mwO cA N)).heap[q]? = _
    rw [State.heap_pushCell_of_lt (h := hl), hH]
  | succ i ih =>
    intro hi
    have h := ih (by omega)
    have h' := h
    obtain ⟨-, -, -, -, -, ⟨oc, g5, -⟩, -⟩ := h'
    have h2 := mwI_row h (by omega) g5
    show mwI p l e R s m args below meth c locs cells slots vm1 H u cA comp N M (i + 1) (mwR H.size (mwN comp M) i (mwS H.size (mwO cA N) (mwN comp M) S i))
    unfold mwR
    rw [g5]
    exact h2
/-- one array of zeros -/
theorem wp_zeros {E : CtlPost} {d : Bool} {acts : List Action} {S : State} {cl c2 : ClassId} {k : Class} {t : FieldType} {v : Value} {M : Nat} (hk : S.vm.classes[cl]? = some k) (hkind : k.kind = .array c2 t) (h1 : ¬ M > e.platform.arrayLengthLimit) (h2 : ¬ M * componentBytes t > e.platform.maxHeapBytes) (h3 : S.heap.size < e.platform.maxCells) (h4 : S.slotsUsed + M ≤ e.platform.maxSlots) (hf : fits t v = true) {Q : Addr → Pre}
    (hq : ∀ acts', Q S.heap.size d acts' (S.pushCell { cls := cl, slots := Array.replicate M v, vm := .none })) : wp (Jvm.newArray cl M v) Q E e d acts S := by
  have hfit : ∀ i w, (Array.replicate M v)[i]? = some w → S.fitsSlot cl .none i w = true := by
    intro i w hw
    rw [Array.getElem?_replicate] at hw
    by_cases hi : i < M
    · rw [if_pos hi] at hw
      cases hw
      simp [State.fitsSlot, State.slotType?, hk, hkind, hf]
    · rw [if_neg hi] at hw
      cases hw
  have h5 : ¬ M > e.platform.maxSlots := by omega
  simp only [Jvm.newArray, Jvm.arrayFits, wp_bind', W.ask, h1, if_false, wp_pure', W.theClass, hk, Option.some.injEq, exists_eq_left', hkind, h2, h5, W.alloc]
  exact ⟨h3, by simpa using h4, hfit, hq _⟩
theorem wp_rows {E : CtlPost} {d : Bool} {acts : List Action} {S : State} {g : JFrame} {vm1 : Vm} {u : Nat} {cA comp c2 : ClassId} {kA kC : Class} {n k : Int32} {N M : Nat} (hn : ¬ n < 0) (hk : ¬ k < 0) (hN : n.toNatClampNeg = N) (hM : k.toNatClampNeg = M)
    (hkA : vm1.classes[cA]? = some kA) (hkindA : kA.kind = .array comp (.array .int)) (hkC : vm1.classes[comp]? = some kC) (hkindC : kC.kind = .array c2 .int) (a1 : ¬ N > e.platform.arrayLengthLimit) (a2 : ¬ N * 4 > e.platform.maxHeapBytes) (a3 : ¬ M > e.platform.arrayLengthLimit) (a4 : ¬ M * 4 > e.platform.maxHeapBytes)
    (hS : S.vm = vm1) (hu : S.slotsUsed = u) (hH : S.heap = H) (X : Stand p l e R s m args below meth c S locs cells slots) (hc : H.size + 1 + N ≤ e.platform.maxCells) (hs : u + N + N * M ≤ e.platform.maxSlots) {Q : Addr → Pre}
    (hq : ∀ d' acts', Q H.size d' acts' ((mwS H.size (mwO cA N) (mwN comp M) S N).setTop g)) : wp (multianewarray.make cA [n, k]) Q E e d acts (S.setTop g) := by
  have hfind : ([k].find? (· < 0)) = none := by simp [hk]
  rw [multianewarray.make]
  simp only [wp_bind', W.ite, hn, if_false, wp_pure', W.theClass, State.vm_setTop, hS, hkA, hkindA, Option.some.injEq, exists_eq_left', hN]
  refine wp_zeros (c2 := comp) (t := .array .int) (by rw [State.vm_setTop, hS]; exact hkA) hkindA a1 a2 (by rw [State.heap_setTop, hH]; omega) (by rw [State.slotsUsed_setTop, hu]; omega) rfl (fun acts1 => ?_)
  simp only [hfind]
  rw [ite_self, wp_bind', Std.Legacy.Range.forIn_eq_forIn_range', show ([:N] : Std.Legacy.Range).size = N by simp [Std.Legacy.Range.size]]
  refine wp_forIn_inv (fun rest s' => ∃ i, i ≤ N ∧ rest = List.range' i (N - i) ∧ s' = State.setTop (mwS H.size (mwO cA N) (mwN comp M) S i) g) _ _ ⟨0, Nat.zero_le _, rfl, State.pushCell_setTop _ _ _⟩ ?_ ?_
  · rintro x rest s' d' acts' Q' ⟨i, hi, hl, rfl⟩ hnext
    have hlt : i < N := by
      rcases Nat.lt_or_ge i N with h | h
      · exact h
      · rw [show N - i = 0 by omega] at hl
        cases hl
    have hl2 : x = i ∧ rest = List.range' (i + 1) (N - (i + 1)) := by
      rw [show N - i = (N - (i + 1)) + 1 by omega, List.range'_succ] at hl
      exact ⟨(List.cons.inj hl).1, (List.cons.inj hl).2⟩
    obtain ⟨rfl, rfl⟩ := hl2
    obtain ⟨-, g2, g3, g4, -, ⟨oc, g5, g6, g7, g8, -⟩, -⟩ := mwS_I (cA := cA) (comp := comp) (N := N) (M := M) hS hu hH X x hi
    have hmul : x * M + M ≤ N * M := by
      have := Nat.mul_le_mul_right M (show x + 1 ≤ N from hlt)
      rw [Nat.succ_mul] at this
      exact this
    rw [multianewarray.make]
    simp only [wp_bind', W.ite, hk, if_false, wp_pure', W.theClass, State.vm_setTop, g2, hkC, hkindC, Option.some.injEq, exists_eq_left', hM]
    refine wp_zeros (c2 := c2) (t := .int) (by rw [State.vm_setTop, g2]; exact hkC) hkindC a3 a4 (by rw [State.heap_setTop, g4]; omega) (by rw [State.slotsUsed_setTop, g3]; omega) rfl (fun acts2 => ?_)
    simp only [wp_bind', W.writeLoc, wp_pure', State.heap_setTop, hH]
    rw [State.pushCell_setTop]
    have hl0 : H.size < (mwS H.size (mwO cA N) (mwN comp M) S x).heap.size := by rw [g4]; omega
    refine ⟨oc, by rw [State.heap_setTop, State.heap_pushCell_of_lt (h := hl0)]; exact g5, by rw [g7]; simp, by rw [g8]; exact hlt, ?_, hnext _ _ _ ⟨x + 1, hlt, rfl, ?_⟩⟩
    · rw [g6, g7]
      simp [State.fitsSlot, State.slotType?, g2, hkA, hkindA, fits]
    · rw [State.setCell_setTop, g4]
      show _ = State.setTop (mwR H.size (mwN comp M) x (mwS H.size (mwO cA N) (mwN comp M) S x)) g
      unfold mwR
      rw [g5]
      rfl
  · rintro s' d' acts' ⟨i, hi, hl, rfl⟩
    have hiN : i = N := by
      rcases Nat.lt_or_ge i N with h | h
      · rw [show N - i = (N - (i + 1)) + 1 by omega, List.range'_succ] at hl
        cases hl
      · omega
    subst hiN
    simp only [wp_pure', State.heap_setTop, hH]
    exact hq _ _
theorem w_multi (hexec : p.tables.exec = Jvm.exec) {cc : ByteArray} (hb : c.code = cc) {own : String} {index : Nat} (hown : s.vm.findClass own = some m.cls) (hclink : (Cond.classLink own index "[[I").before args s = true) {cA comp c2 : ClassId} {kA kC : Class} (hA : s.vm.findClass "[[I" = some cA) (hkA : s.vm.classes[cA]? = some kA) (hkindA : kA.kind = .array comp (.array .int)) (hkC : s.vm.classes[comp]? = some kC) (hkindC : kC.kind = .array c2 .int)
    {pc : Nat} {la : Array Slot} {rest : List Value} (hdg : decode cc pc = .ok (.multianewarray index 2, 4)) {n k : Int32} {N M : Nat} (hn : ¬ n < 0) (hk : ¬ k < 0) (hN : n.toNatClampNeg = N) (hM : k.toNatClampNeg = M) (hb1 : N * 4 ≤ 536870912) (hb2 : M * 4 ≤ 536870912) (hcells : cells + (1 + N) ≤ R.cells) (hslots : slots + (N + N * M) ≤ R.slots)
    (kk : ∀ (H' : Heap) (locs' : List Loc), H'.size = H.size + 1 + N → (∀ q, q < H.size → H'[q]? = H[q]?) → (∃ oc : Cell, H'[H.size]? = some oc ∧ oc.cls = cA ∧ oc.vm = .none ∧ oc.slots.size = N ∧ (∀ j, j < N → oc.slots[j]? = some (.ref (H.size + 1 + j))) ∧ oc.monitor = {} ∧ oc.hash = none) → (∀ j, j < N → H'[H.size + 1 + j]? = some { cls := comp, slots := Array.replicate M (.int 0), vm := .none }) → (∀ q ∈ locs', q ∈ locs ∨ q.base = H.size) →
      W p l e R s m args below meth c H' locs' (cells + 1 + N) (slots + N + N * M) Q (F0 m (pc + 4) la (.ref H.size :: rest))) : W p l e R s m args below meth c H locs cells slots Q (F0 m pc la (.int k :: .int n :: rest)) := by
  intro T hT X
  subst hT
  subst hb
  have hpl : e.platform.magicAccessors = ({} : Platform).magicAccessors := by rw [X.admits.platform]
  obtain ⟨c0, hf0, hcl⟩ := Cond.classLink_spec hown hclink e.platform hpl
  cases hA.symm.trans hf0
  obtain ⟨hg1, hwarm1, hready1⟩ := State.classEntry (e := e) X.warmed hcl
  generalize T.vm.noted m.cls index (.cls cA) = vm1 at hg1 hwarm1 hready1
  have hal : s.vm.Alike vm1 := hwarm1.alike
  obtain ⟨kA1, hkA1, heA⟩ := hal.2.2 _ _ hkA
  obtain ⟨kC1, hkC1, heC⟩ := hal.2.2 _ _ hkC
  have X1 := X.noted hwarm1
  obtain ⟨hr1, hr2⟩ := X.roomAbove hcells hslots
  have hI := mwS_I (H := T.heap) (u := T.slotsUsed) (vm1 := vm1) (cA := cA) (comp := comp) (N := N) (M := M) (S := T.setVm vm1) rfl rfl rfl X1 N (Nat.le_refl _)
  obtain ⟨⟨ls', i1, XF⟩, i2, i3, i4, i5, i6, i7⟩ := hI
  obtain ⟨t, b1, b2⟩ := kk _ ls' i4 i5 i6 i7 i1 _ rfl XF
  refine ⟨t, ?_, b2⟩
  have hl1 : ¬ N > e.platform.arrayLengthLimit := by rw [Launch.admits_arrayLengthLimit X.admits]; omega
  have hl2 : ¬ M > e.platform.arrayLengthLimit := by rw [Launch.admits_arrayLengthLimit X.admits]; omega
  have hh1 : ¬ N * 4 > e.platform.maxHeapBytes := by rw [Launch.admits_maxHeapBytes X.admits]; omega
  have hh2 : ¬ M * 4 > e.platform.maxHeapBytes := by rw [Launch.admits_maxHeapBytes X.admits]; omega
  jvm_step X.here [hexec, hdg]
  simp only [multianewarray.sem, wp_bind', W.resolveClassAt_links (State.method?_setTop (F0 m pc la (.int k :: .int n :: rest)) X.here.top) hg1]
  rw [W.popN, if_neg (by decide)]
  refine ⟨F0 m pc la (.int k :: .int n :: rest), State.topJava?_setTop' (s := T.setVm vm1) _ X.here.top, [.int n, .int k], rest, rfl, rfl, ?_⟩
  simp only [List.mapM_cons, List.mapM_nil, wp_bind', wp_pure']
  have eS : ((T.setTop (F0 m pc la (.int k :: .int n :: rest))).setVm vm1).setTop (F0 m pc la rest) = (T.setVm vm1).setTop (F0 m pc la rest) := by
    show ((T.setVm vm1).setTop _).setTop _ = _
    rw [State.setTop_setTop]
  show wp _ _ _ _ _ _ (((T.setTop (F0 m pc la (.int k :: .int n :: rest))).setVm vm1).setTop (F0 m pc la rest))
  rw [eS]
  refine wp_rows (S := T.setVm vm1) (H := T.heap) (u := T.slotsUsed) (vm1 := vm1) hn hk hN hM hkA1 (by rw [heA]; exact hkindA) hkC1 (by rw [heC]; exact hkindC) hl1 hh1 hl2 hh2 rfl rfl rfl X1 (by omega) (by omega) (fun d' acts' => ?_)
  simp only [wp_bind', W.mark, W.pushRef, State.topJava?_setTop' _ XF.here.top, Option.some.injEq, exists_eq_left', State.setTop_setTop, State.heap_setTop]
  intro acts
  simp [jvm, XF.here.top]
  exact b1
end MULTI
theorem cell_ext {a b : Cell} (h1 : a.cls = b.cls) (h2 : a.slots = b.slots) (h3 : a.monitor = b.monitor) (h4 : a.hash = b.hash) (h5 : a.vm = b.vm) : a = b := by
  cases a
  cases b
  simp only at h1 h2 h3 h4 h5
  subst h1 h2 h3 h4 h5
  rfl
section MULTIJ
variable {Z : ZT} {G : GT} {mi : MI} {own : String} {cs : Nat × Nat} {pc : Nat} {ls : LV} {st : List Value} {N d mc ms : Nat} {sh : Nat → Nat × Nat} {I : Nat → Nat → Int32} {L : Nat → Nat → Int64} {R : Nat → Nat → Option Nat}
def mR (R : Nat → Nat → Option Nat) (N n : Nat) : Nat → Nat → Option Nat := fun a k => if a = N then (if k < n then some (N + 1 + k) else none) else R a k
theorem j_multi (C : CX Z G mi own) (B : RB Z d mc ms) {idx n k : Nat} {x y : Int32} (hlk : Cond.classLink own idx "[[I" ∈ tbl2) (hx0 : ¬ x < 0) (hy0 : ¬ y < 0) (hxn : x.toNatClampNeg = n) (hyk : y.toNatClampNeg = k) (hb1 : Nat.ble (n * 4) 536870912 = true) (hb2 : Nat.ble (k * 4) 536870912 = true)
    (hs : sh N = (27, n)) (hsr : ∀ j, j < n → sh (N + 1 + j) = (20, k)) (hI : ∀ j i, j < n → I (N + 1 + j) i = 0) (hN : Nat.ble (N + n + 2) 1000 = true) (hcs : cs.1 + (1 + n) ≤ mc ∧ cs.2 + (n + n * k) ≤ ms) (hd : decode mi.2.1 pc = .ok (.multianewarray idx 2, 4))
    (kk : J Z (cs.1 + 1 + n, cs.2 + n + n * k) (pc + 4) ls (.ref (ra G N) :: st) (N + 1 + n, sh, I, L, mR R N n)) : J Z cs pc ls (.int y :: .int x :: st) (N, sh, I, L, R) := by
  intro H locs la hH hS hl
  have hN := Nat.le_of_ble_eq_true hN
  have hG : zG Z = G := C.2.2.1
  rw [hG] at hH hS
  have hts := C.2.2.2.2.2.2.1
  have hK := C.2.2.2.2.2.2.2.2.1.1
  have hGS := C.2.2.2.2.2.2.2.2.1.2
  have hsz : H.size = gb G + N := hH.2.1
  obtain ⟨comp, cA, kA, f1, -, f3, f4, f5⟩ := arrayOverA_spec hGS.2.2.2.2.2.2.2.2.2.2.2.1
  have hcA : cA = gA G 7 := Option.some.inj (f5.symm.trans (show (zs Z).vm.findClass ("[" ++ (FieldType.array .int).toString) = some (gA G 7) from (hK.2 7 (gA G 7, .array .int) rfl).2))
  have hc0 : comp = gA G 0 := Option.some.inj (f1.symm.trans (show (zs Z).vm.findClass (FieldType.array .int).toString = some (gA G 0) from (hK.2 0 (gA G 0, .int) rfl).2))
  subst hcA
  subst hc0
  obtain ⟨-, kC, hkC, c2, hkindC⟩ := (hK.2 0 (gA G 0, .int) rfl).1 0 (fun _ => .null)
  have hnm : (zs Z).vm.findClass "[[I" = some (gA G 7) := by
    have e : "[" ++ (FieldType.array .int).toString = "[[I" := by decide +kernel
    rw [← e]
    exact f5
  refine w_multi C.1 C.2.1 C.2.2.2.2.2.1 (hts _ hlk) hnm f3 f4 hkC hkindC hd hx0 hy0 hxn hyk (Nat.le_of_ble_eq_true hb1) (Nat.le_of_ble_eq_true hb2) (Nat.le_trans hcs.1 B.2.2.1) (Nat.le_trans hcs.2 B.2.2.2) fun H1 locs' z1 o1 ⟨oc, p1, p2, p3, p4, p5, p6, p7⟩ r1 l1 => ?_
  have hH1 : HW G (N + 1 + n, sh, I, L, mR R N n) H1 := by
    refine ⟨fun a q ha => ?_, by rw [z1, hsz]; show gb G + N + 1 + n = gb G + (N + 1 + n); omega, by show N + 1 + n < 1000; omega⟩
    obtain ⟨h1, rfl⟩ := wsOf_in ha
    have h1 : a < N + 1 + n := h1
    show va_at (gD G) cls (gb G + a, ent G sh I L (mR R N n) a) H1
    by_cases hlt : a < N
    · have e0 := HW_R (R' := mR R N n) (fun b hb => by funext j; unfold mR; rw [if_neg (by omega)]) hH
      exact (e0.1 a _ (wsOf_at (w := (N, sh, I, L, mR R N n)) hlt)).kept (o1 _ (by rw [hsz]; show gb G + a < gb G + N; omega))
    · by_cases he : a = N
      · subst he
        rw [ent_ref (kd := 3) hs]
        show H1[gb G + a]? = some (vp_cell (gA G 7) (n, .inr (.inr (.inr (.inr (fun j => (mR R a n a j).map (ra G)))))))
        rw [← hsz, p1, vp_cell_q]
        have hoc : oc.slots = (arrV (gA G 7) n (fun j => va_rf ((mR R a n a j).map (ra G)))).slots := by
          apply Array.ext_getElem?
          intro i
          by_cases hi : i < n
          · rw [p5 i hi, arrV_read _ _ hi]
            unfold mR
            rw [if_pos rfl, if_pos hi]
            show some (Value.ref (H.size + 1 + i)) = some (Value.ref (ra G (a + 1 + i)))
            rw [ra_lt G (by omega), hsz, show gb G + a + 1 + i = gb G + (a + 1 + i) by omega]
          · rw [Array.getElem?_eq_none (by omega), Array.getElem?_eq_none (by rw [arrV_size]; omega)]
        refine congrArg some ?_
        exact cell_ext p2 hoc p6 p7 p3
      · obtain ⟨j, rfl⟩ : ∃ j, a = N + 1 + j := ⟨a - (N + 1), by omega⟩
        have hj : j < n := by omega
        rw [ent_int (kd := 0) (hsr j hj) (by decide)]
        show H1[gb G + (N + 1 + j)]? = some (vp_cell (gA G 0) (k, .inl (I (N + 1 + j))))
        have := r1 j hj
        rw [hsz, show gb G + N + 1 + j = gb G + (N + 1 + j) by omega] at this
        rw [this, vp_cell_i, arrV_new]
        exact congrArg some (arrV_ext (fun i _ => by rw [hI j i hj]))
  have hS1 : va_S (AG G) (zs Z).heap H1 locs' := by
    refine ⟨Nat.le_trans hS.1 (by omega), fun q h1 h2 => (o1 q (Nat.lt_of_lt_of_le h1 hS.1)).trans (hS.2.1 q h1 h2), fun q hq => ?_⟩
    rcases l1 q hq with h | h
    · exact hS.2.2 q h
    · rw [h, hsz]
      exact Nat.le_add_right _ _
  have h := kk H1 locs' la (by rw [hG]; exact hH1) (by rw [hG]; exact hS1) hl
  rw [ra_lt G (show N < 1000 by omega), ← hsz] at h
  exact h
end MULTIJ
end
section
/-! the enum's values() -/
theorem c_values (l : Launch) (G : GT) {N : Nat} {sh : Nat → Nat × Nat} {I : Nat → Nat → Int32} {L : Nat → Nat → Int64} {R : Nat → Nat → Option Nat} (hs : sh N = (24, 42)) (hN : Nat.ble (N + 2) 1000 = true) : Mt l G mX7_values 1 1 42 [] (N, sh, I, L, R) (fun r w' => r = some (.ref (ra G N)) ∧ w' = (N + 1, sh, I, L, vR R N)) := by
  refine mt_of (own := RX7) (by decide) rfl rfl (fun Z C P B => ?_)
  have D := @dc_of _ _ dX7_values
  refine j_vals C B rfl rfl (inT_mem (i := 175) (by decide +kernel)) (inT_mem (i := 177) (by decide +kernel)) (inT_mem (i := 183) (by decide +kernel)) hs hN (by decide) (D 0 rfl) (D 1 rfl) (D 2 rfl) ?_
  exact j_aret C P rfl (Or.inr ⟨_, rfl⟩) (D 3 rfl) (by decide) ⟨rfl, rfl⟩
end
section
/-! makers -/
theorem c_X3i (l : Launch) (G : GT) {I : Nat → Nat → Int32} {L : Nat → Nat → Int64} {R : Nat → Nat → Option Nat} (hI : ∀ k, I 3 k = 0) : Mt l G mX3_init 1 1 64 [.ref (ra G 2)] (3, SH, I, L, R) (fun r w' => r = none ∧ w' = (4, SH, I, L, up2 R 2 0 (some 3))) := by
  refine mt_of (own := RX3) (by decide) rfl rfl (fun Z C P B => ?_)
  have D := @dc_of _ _ dX3_init
  refine j_aload_n C (D 0 rfl) rfl ?_
  refine j_oinit C B (inT_mem (i := 147) (by decide +kernel)) rfl rfl (D 1 rfl) ?_
  refine j_aload_n C (D 2 rfl) rfl ?_
  refine j_bipush (v := 64) C (D 3 rfl) (by decide) ?_
  refine j_newbyte C B (n := 64) rfl (by decide) (by decide) rfl hI rfl (by decide) (D 4 rfl) ?_
  refine j_putFr (N := 4) (sh := SH) C f_X3_7 rfl rfl ⟨TX3, rfl⟩ ⟨by omega, rfl⟩ rfl rfl (D 5 rfl) ?_
  exact j_vret C P rfl (D 6 rfl) (by decide) ⟨rfl, rfl⟩
/-- nothing from cell N on -/
def zI (I : Nat → Nat → Int32) (N : Nat) : Prop := ∀ a k, N ≤ a → I a k = 0
def zL (L : Nat → Nat → Int64) (N : Nat) : Prop := ∀ a k, N ≤ a → L a k = 0
def zR' (R : Nat → Nat → Option Nat) (N : Nat) : Prop := ∀ a k, N ≤ a → R a k = none
theorem zR_up {R : Nat → Nat → Option Nat} {N a k : Nat} {v : Option Nat} (h : zR' R N) (ha : a < N) : zR' (up2 R a k v) N := fun b j hb => by rw [up2_ne R v (by omega)]; exact h b j hb
theorem c_X9i (l : Launch) (G : GT) {I : Nat → Nat → Int32} {L : Nat → Nat → Int64} {R : Nat → Nat → Option Nat} (hI : zI I 6) (hR : zR' R 6) : Mt l G mX9_init 2 4 3645 [.ref (ra G 5)] (6, SH, I, L, R) (fun r w' => r = none ∧ w' = (10, SH, I, L, up2 (vR (up2 (up2 (up2 R 5 0 (some 6)) 5 1 (some 7)) 5 2 (some 8)) 9) 5 4 (some 9))) := by
  refine mt_of (own := RX9) (by decide) rfl rfl (fun Z C P B => ?_)
  have D := @dc_of _ _ dX9_init
  refine j_aload_n C (D 0 rfl) rfl ?_
  refine j_oinit C B (inT_mem (i := 169) (by decide +kernel)) rfl rfl (D 1 rfl) ?_
  refine j_aload_n C (D 2 rfl) rfl ?_
  refine j_sipush (v := 1201) C (D 3 rfl) (by decide) ?_
  refine j_anew C B (kd := 0) (n := 1201) (c := "TenTrials$Sign") rfl C.2.2.2.2.2.2.2.2.1.2.2.2.2.2.2.2.2.2.1 (inT_mem (i := 170) (by decide +kernel)) rfl (by decide) (by decide) rfl (fun k => hR 6 k (by decide)) rfl (by decide) (D 4 rfl) ?_
  refine j_putFr (N := 7) (sh := SH) C f_X9_11 rfl rfl ⟨TX9, rfl⟩ ⟨by omega, rfl⟩ rfl rfl (D 5 rfl) ?_
  refine j_aload_n C (D 6 rfl) rfl ?_
  refine j_sipush (v := 1201) C (D 7 rfl) (by decide) ?_
  refine j_newint C B (n := 1201) rfl (by decide) (by decide) rfl (fun k => hI 7 k (by decide)) rfl (by decide) (D 8 rfl) ?_
  refine j_putFr (N := 8) (sh := SH) C f_X9_17 rfl rfl ⟨TX9, rfl⟩ ⟨by omega, rfl⟩ rfl rfl (D 9 rfl) ?_
  refine j_aload_n C (D 10 rfl) rfl ?_
  refine j_sipush (v := 1201) C (D 11 rfl) (by decide) ?_
  refine j_newint C B (n := 1201) rfl (by decide) (by decide) rfl (fun k => hI 8 k (by decide)) rfl (by decide) (D 12 rfl) ?_
  refine j_putFr (N := 9) (sh := SH) C f_X9_21 rfl rfl ⟨TX9, rfl⟩ ⟨by omega, rfl⟩ rfl rfl (D 13 rfl) ?_
  refine j_aload_n C (D 14 rfl) rfl ?_
  refine j_callS' C B k_X9_24 (c_values _ _ (N := 9) rfl rfl) (As := []) rfl rfl rfl rfl (by decide) (D 15 rfl) ?_
  rintro r w' ⟨rfl, rfl⟩
  refine j_putFr (N := 10) (sh := SH) C f_X9_28 rfl rfl ⟨TX9, rfl⟩ ⟨by omega, rfl⟩ rfl rfl (D 16 rfl) ?_
  exact j_vret C P rfl (D 17 rfl) (by decide) ⟨rfl, rfl⟩
theorem c_X6i (l : Launch) (G : GT) {a : Nat} {I : Nat → Nat → Int32} {L : Nat → Nat → Int64} {R : Nat → Nat → Option Nat} (ha : a = 125 ∨ a = 148) (hI : zI I (a + 1)) : Mt l G mX6_init 1 22 1240 [.ref (ra G a)] (a + 1, SH, I, L, R) (fun r w' => r = none ∧ w' = (a + 23, SH, I, L, up2 (mR (up2 (mR R (a + 1) 10) a 0 (some (a + 1))) (a + 12) 10) a 1 (some (a + 12)))) := by
  have h1 : SH a = (6, 3) ∧ SH (a + 1) = (27, 10) ∧ SH (a + 12) = (27, 10) := by rcases ha with rfl | rfl <;> exact ⟨rfl, rfl, rfl⟩
  have h2 : ∀ j, j < 10 → SH (a + 1 + 1 + j) = (20, 61) ∧ SH (a + 12 + 1 + j) = (20, 61) := by rcases ha with rfl | rfl <;> decide
  have h3 : a < 200 := by omega
  refine mt_of (own := RX6) (by decide) rfl rfl (fun Z C P B => ?_)
  have D := @dc_of _ _ dX6_init
  refine j_aload_n C (D 0 rfl) rfl ?_
  refine j_oinit C B (inT_mem (i := 483) (by decide +kernel)) rfl rfl (D 1 rfl) ?_
  refine j_aload_n C (D 2 rfl) rfl ?_
  refine j_bipush (v := 10) C (D 3 rfl) (by decide) ?_
  refine j_bipush (v := 61) C (D 4 rfl) (by decide) ?_
  refine j_multi C B (n := 10) (k := 61) (inT_mem (i := 484) (by decide +kernel)) (by decide) (by decide) (by decide) (by decide) rfl rfl h1.2.1 (fun j hj => (h2 j hj).1) (fun j i _ => hI _ _ (by omega)) (Nat.ble_eq_true_of_le (by omega)) (by decide) (D 5 rfl) ?_
  refine j_putFr C f_X6_11 rfl rfl ⟨TX6, rfl⟩ ⟨by omega, h1.1⟩ rfl rfl (D 6 rfl) ?_
  refine j_aload_n C (D 7 rfl) rfl ?_
  refine j_bipush (v := 10) C (D 8 rfl) (by decide) ?_
  refine j_bipush (v := 61) C (D 9 rfl) (by decide) ?_
  refine j_multi C B (n := 10) (k := 61) (inT_mem (i := 484) (by decide +kernel)) (by decide) (by decide) (by decide) (by decide) rfl rfl h1.2.2 (fun j hj => (h2 j hj).2) (fun j i _ => hI _ _ (by omega)) (Nat.ble_eq_true_of_le (by omega)) (by decide) (D 10 rfl) ?_
  refine j_putFr C f_X6_16 rfl rfl ⟨TX6, rfl⟩ ⟨by omega, h1.1⟩ rfl rfl (D 11 rfl) ?_
  exact j_vret C P rfl (D 12 rfl) (by decide) ⟨rfl, rfl⟩
theorem c_X10i (l : Launch) (G : GT) {t : Nat} {I : Nat → Nat → Int32} {L : Nat → Nat → Int64} {R : Nat → Nat → Option Nat} (h0 : SH t = (10, 9)) (h1 : SH (t + 1) = (20, 8)) (h2 : SH (t + 2) = (20, 8)) (ht : t < 900) (hI : zI I (t + 1)) : Mt l G mX10_init 1 2 16 [.ref (ra G t)] (t + 1, SH, I, L, R) (fun r w' => r = none ∧ w' = (t + 3, SH, I, L, up2 (up2 R t 7 (some (t + 1))) t 8 (some (t + 2)))) := by
  refine mt_of (own := RX10) (by decide) rfl rfl (fun Z C P B => ?_)
  have D := @dc_of _ _ dX10_init
  refine j_aload_n C (D 0 rfl) rfl ?_
  refine j_oinit C B (inT_mem (i := 251) (by decide +kernel)) rfl rfl (D 1 rfl) ?_
  refine j_aload_n C (D 2 rfl) rfl ?_
  refine j_bipush (v := 8) C (D 3 rfl) (by decide) ?_
  refine j_newint C B (n := 8) rfl (by decide) (by decide) h1 (fun k => hI _ k (by omega)) (Nat.ble_eq_true_of_le (by omega)) (by decide) (D 4 rfl) ?_
  refine j_putFr C f_X10_9 rfl rfl ⟨TX10, rfl⟩ ⟨by omega, h0⟩ rfl rfl (D 5 rfl) ?_
  refine j_aload_n C (D 6 rfl) rfl ?_
  refine j_bipush (v := 8) C (D 7 rfl) (by decide) ?_
  refine j_newint C B (n := 8) rfl (by decide) (by decide) h2 (fun k => hI _ k (by omega)) (Nat.ble_eq_true_of_le (by omega)) (by decide) (D 8 rfl) ?_
  refine j_putFr C f_X10_15 rfl rfl ⟨TX10, rfl⟩ ⟨by omega, h0⟩ rfl rfl (D 9 rfl) ?_
  exact j_vret C P rfl (D 10 rfl) (by decide) ⟨rfl, rfl⟩
theorem c_X0i (l : Launch) (G : GT) {b : Nat} {I : Nat → Nat → Int32} {L : Nat → Nat → Int64} {R : Nat → Nat → Option Nat} (h0 : SH b = (0, 8)) (h1 : SH (b + 1) = (20, 4)) (h2 : SH (b + 2) = (20, 5)) (h3 : SH (b + 3) = (20, 1200)) (h4 : SH (b + 4) = (20, 64)) (hb : b < 900) (hI : zI I (b + 1)) : Mt l G mX0_init 1 4 1273 [.ref (ra G b)] (b + 1, SH, I, L, R) (fun r w' => r = none ∧ w' = (b + 5, SH, I, L, up2 (up2 (up2 (up2 R b 0 (some (b + 1))) b 2 (some (b + 2))) b 3 (some (b + 3))) b 6 (some (b + 4)))) := by
  refine mt_of (own := RX0) (by decide) rfl rfl (fun Z C P B => ?_)
  have D := @dc_of _ _ dX0_init
  refine j_aload_n C (D 0 rfl) rfl ?_
  refine j_oinit C B (inT_mem (i := 218) (by decide +kernel)) rfl rfl (D 1 rfl) ?_
  refine j_aload_n C (D 2 rfl) rfl ?_
  refine j_iconst (v := 4) C (D 3 rfl) (by decide) ?_
  refine j_newint C B (n := 4) rfl (by decide) (by decide) h1 (fun k => hI _ k (by omega)) (Nat.ble_eq_true_of_le (by omega)) (by decide) (D 4 rfl) ?_
  refine j_putFr C f_X0_9 rfl rfl ⟨TX0, rfl⟩ ⟨by omega, h0⟩ rfl rfl (D 5 rfl) ?_
  refine j_aload_n C (D 6 rfl) rfl ?_
  refine j_iconst (v := 5) C (D 7 rfl) (by decide) ?_
  refine j_newint C B (n := 5) rfl (by decide) (by decide) h2 (fun k => hI _ k (by omega)) (Nat.ble_eq_true_of_le (by omega)) (by decide) (D 8 rfl) ?_
  refine j_putFr C f_X0_15 rfl rfl ⟨TX0, rfl⟩ ⟨by omega, h0⟩ rfl rfl (D 9 rfl) ?_
  refine j_aload_n C (D 10 rfl) rfl ?_
  refine j_sipush (v := 1200) C (D 11 rfl) (by decide) ?_
  refine j_newint C B (n := 1200) rfl (by decide) (by decide) h3 (fun k => hI _ k (by omega)) (Nat.ble_eq_true_of_le (by omega)) (by decide) (D 12 rfl) ?_
  refine j_putFr C f_X0_18 rfl rfl ⟨TX0, rfl⟩ ⟨by omega, h0⟩ rfl rfl (D 13 rfl) ?_
  refine j_aload_n C (D 14 rfl) rfl ?_
  refine j_bipush (v := 64) C (D 15 rfl) (by decide) ?_
  refine j_newint C B (n := 64) rfl (by decide) (by decide) h4 (fun k => hI _ k (by omega)) (Nat.ble_eq_true_of_le (by omega)) (by decide) (D 16 rfl) ?_
  refine j_putFr C f_X0_21 rfl rfl ⟨TX0, rfl⟩ ⟨by omega, h0⟩ rfl rfl (D 17 rfl) ?_
  exact j_vret C P rfl (D 18 rfl) (by decide) ⟨rfl, rfl⟩
end
section
/-! makers, over numbered cells -/
theorem zI_m {I : Nat → Nat → Int32} {N M : Nat} (h : zI I N) (hn : N ≤ M) : zI I M := fun a k ha => h a k (Nat.le_trans hn ha)
theorem zL_m {L : Nat → Nat → Int64} {N M : Nat} (h : zL L N) (hn : N ≤ M) : zL L M := fun a k ha => h a k (Nat.le_trans hn ha)
theorem zR_m {R : Nat → Nat → Option Nat} {N M : Nat} (h : zR' R N) (hn : N ≤ M) : zR' R M := fun a k ha => h a k (Nat.le_trans hn ha)
theorem zI_up {I : Nat → Nat → Int32} {N a k : Nat} {v : Int32} (h : zI I N) (ha : a < N) : zI (up2 I a k v) N := fun b j hb => by rw [up2_ne I v (by omega)]; exact h b j hb
theorem zR_v {R : Nat → Nat → Option Nat} {N a : Nat} (h : zR' R N) (ha : a < N) : zR' (vR R a) N := fun b j hb => by unfold vR; rw [if_neg (by omega)]; exact h b j hb
theorem zR_mm {R : Nat → Nat → Option Nat} {N a n : Nat} (h : zR' R N) (ha : a < N) : zR' (mR R a n) N := fun b j hb => by unfold mR; rw [if_neg (by omega)]; exact h b j hb
theorem c_X5i (l : Launch) (G : GT) {t : Nat} {I : Nat → Nat → Int32} {L : Nat → Nat → Int64} {R : Nat → Nat → Option Nat} (h0 : SH t = (5, 9)) (h1 : SH (t + 1) = (20, 10)) (h2 : SH (t + 2) = (22, 10)) (ht : t < 900) (hI : zI I (t + 1)) : Mt l G mX5_init 1 2 20 [.ref (ra G t)] (t + 1, SH, I, L, R) (fun r w' => r = none ∧ w' = (t + 3, SH, I, L, up2 (up2 R t 0 (some (t + 1))) t 1 (some (t + 2)))) := by
  refine mt_of (own := RX5) (by decide) rfl rfl (fun Z C P B => ?_)
  have D := @dc_of _ _ dX5_init
  refine j_aload_n C (D 0 rfl) rfl ?_
  refine j_oinit C B (inT_mem (i := 406) (by decide +kernel)) rfl rfl (D 1 rfl) ?_
  refine j_aload_n C (D 2 rfl) rfl ?_
  refine j_bipush (v := 10) C (D 3 rfl) (by decide) ?_
  refine j_newint C B (n := 10) rfl (by decide) (by decide) h1 (fun k => hI _ k (by omega)) (Nat.ble_eq_true_of_le (by omega)) (by decide) (D 4 rfl) ?_
  refine j_putFr C f_X5_9 rfl rfl ⟨TX5, rfl⟩ ⟨by omega, h0⟩ rfl rfl (D 5 rfl) ?_
  refine j_aload_n C (D 6 rfl) rfl ?_
  refine j_bipush (v := 10) C (D 7 rfl) (by decide) ?_
  refine j_newbool C B (n := 10) rfl (by decide) (by decide) h2 (fun k => hI _ k (by omega)) (Nat.ble_eq_true_of_le (by omega)) (by decide) (D 8 rfl) ?_
  refine j_putFr C f_X5_15 rfl rfl ⟨TX5, rfl⟩ ⟨by omega, h0⟩ rfl rfl (D 9 rfl) ?_
  exact j_vret C P rfl (D 10 rfl) (by decide) ⟨rfl, rfl⟩
def r_ct10 (R : Nat → Nat → Option Nat) : Nat → Nat → Option Nat := (up2 (up2 (up2 (up2 (up2 (up2 (up2 (up2 (up2 (up2 (up2 (up2 (up2 (up2 (up2 (up2 (up2 (up2 (up2 (up2 (up2 (up2 (up2 (up2 (up2 (up2 (up2 (up2 (up2 (up2 (up2 (up2 (up2 (up2 (up2 (up2 (up2 (up2 (up2 R 10 0 (some 11)) 10 1 (some 12)) 10 2 (some 13)) 10 3 (some 14)) 15 0 (some 16)) 15 2 (some 17)) 15 3 (some 18)) 15 6 (some 19)) 10 4 (some 15)) 20 7 (some 21)) 20 8 (some 22)) 11 0 (some 20)) 23 7 (some 24)) 23 8 (some 25)) 11 1 (some 23)) 26 7 (some 27)) 26 8 (some 28)) 11 2 (some 26)) 29 7 (some 30)) 29 8 (some 31)) 11 3 (some 29)) 32 7 (some 33)) 32 8 (some 34)) 11 4 (some 32)) 35 7 (some 36)) 35 8 (some 37)) 11 5 (some 35)) 38 7 (some 39)) 38 8 (some 40)) 11 6 (some 38)) 41 7 (some 42)) 41 8 (some 43)) 11 7 (some 41)) 44 7 (some 45)) 44 8 (some 46)) 11 8 (some 44)) 47 7 (some 48)) 47 8 (some 49)) 11 9 (some 47))
theorem z_r_ct10 {R : Nat → Nat → Option Nat} (hR : zR' R 11) : zR' (r_ct10 R) 50 := (zR_up (zR_up (zR_up (zR_up (zR_up (zR_up (zR_up (zR_up (zR_up (zR_up (zR_up (zR_up (zR_up (zR_up (zR_up (zR_up (zR_up (zR_up (zR_up (zR_up (zR_up (zR_up (zR_up (zR_up (zR_up (zR_up (zR_up (zR_up (zR_up (zR_up (zR_up (zR_up (zR_up (zR_up (zR_up (zR_up (zR_up (zR_up (zR_up (zR_m hR (by decide)) (by decide)) (by decide)) (by decide)) (by decide)) (by decide)) (by decide)) (by decide)) (by decide)) (by decide)) (by decide)) (by decide)) (by decide)) (by decide)) (by decide)) (by decide)) (by decide)) (by decide)) (by decide)) (by decide)) (by decide)) (by decide)) (by decide)) (by decide)) (by decide)) (by decide)) (by decide)) (by decide)) (by decide)) (by decide)) (by decide)) (by decide)) (by decide)) (by decide)) (by decide)) (by decide)) (by decide)) (by decide)) (by decide)) (by decide))
set_option maxRecDepth 20000 in
set_option maxHeartbeats 4000000 in
theorem c_X1i10 (l : Launch) (G : GT) {I : Nat → Nat → Int32} {L : Nat → Nat → Int64} {R : Nat → Nat → Option Nat} (hI : zI I 11) (hL : zL L 11) (hR : zR' R 11) : Mt l G mX1_init 2 39 1781 [.ref (ra G 10)] (11, SH, I, L, R) (fun r w' => r = none ∧ w' = (50, SH, I, L, r_ct10 R)) := by
  refine mt_of (own := RX1) (by decide) rfl rfl (fun Z C P B => ?_)
  have D := @dc_of _ _ dX1_init
  refine j_aload_n C (D 0 rfl) rfl ?_
  refine j_oinit C B (inT_mem (i := 210) (by decide +kernel)) rfl rfl (D 1 rfl) ?_
  refine j_aload_n C (D 2 rfl) rfl ?_
  refine j_bipush (v := nI 10) C (D 3 rfl) (by decide) ?_
  refine j_anew C B (kd := 1) (n := 10) (c := "TenTrials$Trial") rfl C.2.2.2.2.2.2.2.2.1.2.2.2.2.2.2.2.2.2.2.1 (inT_mem (i := 211) (by decide +kernel)) rfl (by decide) (by decide) rfl (fun k => (zR_m hR (by decide)) 11 k (Nat.le_refl _)) rfl (by decide) (D 4 rfl) ?_
  show J Z (1, 10) _ _ _ (12, _)
  refine j_putFr (N := 12) (sh := SH) C f_X1_11 rfl rfl ⟨TX1, rfl⟩ ⟨by decide, rfl⟩ rfl rfl (D 5 rfl) ?_
  refine j_aload_n C (D 6 rfl) rfl ?_
  refine j_bipush (v := nI 80) C (D 7 rfl) (by decide) ?_
  refine j_newint C B (n := 80) rfl (by decide) (by decide) rfl (fun k => (zI_m hI (by decide)) 12 k (Nat.le_refl _)) rfl (by decide) (D 8 rfl) ?_
  show J Z (2, 90) _ _ _ (13, _)
  refine j_putFr (N := 13) (sh := SH) C f_X1_17 rfl rfl ⟨TX1, rfl⟩ ⟨by decide, rfl⟩ rfl rfl (D 9 rfl) ?_
  refine j_aload_n C (D 10 rfl) rfl ?_
  refine j_bipush (v := nI 80) C (D 11 rfl) (by decide) ?_
  refine j_newint C B (n := 80) rfl (by decide) (by decide) rfl (fun k => (zI_m hI (by decide)) 13 k (Nat.le_refl _)) rfl (by decide) (D 12 rfl) ?_
  show J Z (3, 170) _ _ _ (14, _)
  refine j_putFr (N := 14) (sh := SH) C f_X1_21 rfl rfl ⟨TX1, rfl⟩ ⟨by decide, rfl⟩ rfl rfl (D 13 rfl) ?_
  refine j_aload_n C (D 14 rfl) rfl ?_
  refine j_bipush (v := nI 80) C (D 15 rfl) (by decide) ?_
  refine j_newint C B (n := 80) rfl (by decide) (by decide) rfl (fun k => (zI_m hI (by decide)) 14 k (Nat.le_refl _)) rfl (by decide) (D 16 rfl) ?_
  show J Z (4, 250) _ _ _ (15, _)
  refine j_putFr (N := 15) (sh := SH) C f_X1_24 rfl rfl ⟨TX1, rfl⟩ ⟨by decide, rfl⟩ rfl rfl (D 17 rfl) ?_
  refine j_aload_n C (D 18 rfl) rfl ?_
  refine j_new C B (ci := 0) (n := 8) (ty := tyX0) rfl us_X0 tyX0_ok (by decide) rfl (inT_mem (i := 214) (by decide +kernel)) (inT_mem (i := 121) (by decide +kernel)) (inT_mem (i := 213) (by decide +kernel)) rfl (fun k => (zI_m hI (by decide)) 15 k (Nat.le_refl _)) (fun k => (zL_m hL (by decide)) 15 k (Nat.le_refl _)) (fun k => (zR_up (zR_up (zR_up (zR_up (zR_m hR (by decide)) (by decide)) (by decide)) (by decide)) (by decide)) 15 k (Nat.le_refl _)) rfl (by decide) (D 19 rfl) ?_
  show J Z (5, 258) _ _ _ (16, _)
  refine j_dup C (D 20 rfl) rfl ?_
  refine j_callIN' C B k_X1_29 (c_X0i _ _ (b := 15) rfl rfl rfl rfl rfl (by decide) (zI_m hI (by decide))) (As := []) rfl rfl rfl rfl (by decide) (D 21 rfl) ?_
  rintro r w' ⟨rfl, rfl⟩
  show J Z (9, 1531) _ _ _ (20, _)
  refine j_putFr (N := 20) (sh := SH) C f_X1_30 rfl rfl ⟨TX1, rfl⟩ ⟨by decide, rfl⟩ rfl rfl (D 22 rfl) ?_
  refine j_iconst (v := nI 0) C (D 23 rfl) (by decide) ?_
  refine j_istore_n C (D 24 rfl) rfl ?_
  refine j_iload_n C (D 25 rfl) rfl ?_
  refine j_bipush (v := nI 10) C (D 26 rfl) (by decide) ?_
  refine j_icmp_ge C 75 (D 27 rfl) (by decide) (fun h => absurd h (by decide)) (fun _ => ?_)
  refine j_aload_n C (D 28 rfl) rfl ?_
  refine j_getr (N := 20) (sh := SH) C f_X1_11 ⟨by decide, rfl⟩ rfl rfl (r := 11) rfl (D 29 rfl) ?_
  refine j_iload_n C (D 30 rfl) rfl ?_
  refine j_new C B (ci := 10) (n := 9) (ty := tyX10) rfl us_X10 tyX10_ok (by decide) rfl (inT_mem (i := 247) (by decide +kernel)) (inT_mem (i := 122) (by decide +kernel)) (inT_mem (i := 211) (by decide +kernel)) rfl (fun k => (zI_m hI (by decide)) 20 k (Nat.le_refl _)) (fun k => (zL_m hL (by decide)) 20 k (Nat.le_refl _)) (fun k => (zR_up (zR_up (zR_up (zR_up (zR_up (zR_up (zR_up (zR_up (zR_up (zR_m hR (by decide)) (by decide)) (by decide)) (by decide)) (by decide)) (by decide)) (by decide)) (by decide)) (by decide)) (by decide)) 20 k (Nat.le_refl _)) rfl (by decide) (D 31 rfl) ?_
  show J Z (10, 1540) _ _ _ (21, _)
  refine j_dup C (D 32 rfl) rfl ?_
  refine j_callIN' C B k_X1_34 (c_X10i _ _ (t := 20) rfl rfl rfl (by decide) (zI_m hI (by decide))) (As := []) rfl rfl rfl rfl (by decide) (D 33 rfl) ?_
  rintro r w' ⟨rfl, rfl⟩
  show J Z (12, 1556) _ _ _ (23, _)
  refine j_aastO (N := 23) (sh := SH) C (kd := 1) (ci := 10) (nf := 9) ⟨by decide, rfl⟩ (ix_n (by decide) (by decide)) ⟨by decide, rfl⟩ rfl rfl rfl (D 34 rfl) ?_
  refine j_iinc (v := nI 1) C (D 35 rfl) rfl rfl (by decide) ?_
  refine j_goto C 50 (D 36 rfl) (by decide) ?_
  refine j_iload_n C (D 25 rfl) rfl ?_
  refine j_bipush (v := nI 10) C (D 26 rfl) (by decide) ?_
  refine j_icmp_ge C 75 (D 27 rfl) (by decide) (fun h => absurd h (by decide)) (fun _ => ?_)
  refine j_aload_n C (D 28 rfl) rfl ?_
  refine j_getr (N := 23) (sh := SH) C f_X1_11 ⟨by decide, rfl⟩ rfl rfl (r := 11) rfl (D 29 rfl) ?_
  refine j_iload_n C (D 30 rfl) rfl ?_
  refine j_new C B (ci := 10) (n := 9) (ty := tyX10) rfl us_X10 tyX10_ok (by decide) rfl (inT_mem (i := 247) (by decide +kernel)) (inT_mem (i := 122) (by decide +kernel)) (inT_mem (i := 211) (by decide +kernel)) rfl (fun k => (zI_m hI (by decide)) 23 k (Nat.le_refl _)) (fun k => (zL_m hL (by decide)) 23 k (Nat.le_refl _)) (fun k => (zR_up (zR_up (zR_up (zR_up (zR_up (zR_up (zR_up (zR_up (zR_up (zR_up (zR_up (zR_up (zR_m hR (by decide)) (by decide)) (by decide)) (by decide)) (by decide)) (by decide)) (by decide)) (by decide)) (by decide)) (by decide)) (by decide)) (by decide)) (by decide)) 23 k (Nat.le_refl _)) rfl (by decide) (D 31 rfl) ?_
  show J Z (13, 1565) _ _ _ (24, _)
  refine j_dup C (D 32 rfl) rfl ?_
  refine j_callIN' C B k_X1_34 (c_X10i _ _ (t := 23) rfl rfl rfl (by decide) (zI_m hI (by decide))) (As := []) rfl rfl rfl rfl (by decide) (D 33 rfl) ?_
  rintro r w' ⟨rfl, rfl⟩
  show J Z (15, 1581) _ _ _ (26, _)
  refine j_aastO (N := 26) (sh := SH) C (kd := 1) (ci := 10) (nf := 9) ⟨by decide, rfl⟩ (ix_n (by decide) (by decide)) ⟨by decide, rfl⟩ rfl rfl rfl (D 34 rfl) ?_
  refine j_iinc (v := nI 2) C (D 35 rfl) rfl rfl (by decide) ?_
  refine j_goto C 50 (D 36 rfl) (by decide) ?_
  refine j_iload_n C (D 25 rfl) rfl ?_
  refine j_bipush (v := nI 10) C (D 26 rfl) (by decide) ?_
  refine j_icmp_ge C 75 (D 27 rfl) (by decide) (fun h => absurd h (by decide)) (fun _ => ?_)
  refine j_aload_n C (D 28 rfl) rfl ?_
  refine j_getr (N := 26) (sh := SH) C f_X1_11 ⟨by decide, rfl⟩ rfl rfl (r := 11) rfl (D 29 rfl) ?_
  refine j_iload_n C (D 30 rfl) rfl ?_
  refine j_new C B (ci := 10) (n := 9) (ty := tyX10) rfl us_X10 tyX10_ok (by decide) rfl (inT_mem (i := 247) (by decide +kernel)) (inT_mem (i := 122) (by decide +kernel)) (inT_mem (i := 211) (by decide +kernel)) rfl (fun k => (zI_m hI (by decide)) 26 k (Nat.le_refl _)) (fun k => (zL_m hL (by decide)) 26 k (Nat.le_refl _)) (fun k => (zR_up (zR_up (zR_up (zR_up (zR_up (zR_up (zR_up (zR_up (zR_up (zR_up (zR_up (zR_up (zR_up (zR_up (zR_up (zR_m hR (by decide)) (by decide)) (by decide)) (by decide)) (by decide)) (by decide)) (by decide)) (by decide)) (by decide)) (by decide)) (by decide)) (by decide)) (by decide)) (by decide)) (by decide)) (by decide)) 26 k (Nat.le_refl _)) rfl (by decide) (D 31 rfl) ?_
  show J Z (16, 1590) _ _ _ (27, _)
  refine j_dup C (D 32 rfl) rfl ?_
  refine j_callIN' C B k_X1_34 (c_X10i _ _ (t := 26) rfl rfl rfl (by decide) (zI_m hI (by decide))) (As := []) rfl rfl rfl rfl (by decide) (D 33 rfl) ?_
  rintro r w' ⟨rfl, rfl⟩
  show J Z (18, 1606) _ _ _ (29, _)
  refine j_aastO (N := 29) (sh := SH) C (kd := 1) (ci := 10) (nf := 9) ⟨by decide, rfl⟩ (ix_n (by decide) (by decide)) ⟨by decide, rfl⟩ rfl rfl rfl (D 34 rfl) ?_
  refine j_iinc (v := nI 3) C (D 35 rfl) rfl rfl (by decide) ?_
  refine j_goto C 50 (D 36 rfl) (by decide) ?_
  refine j_iload_n C (D 25 rfl) rfl ?_
  refine j_bipush (v := nI 10) C (D 26 rfl) (by decide) ?_
  refine j_icmp_ge C 75 (D 27 rfl) (by decide) (fun h => absurd h (by decide)) (fun _ => ?_)
  refine j_aload_n C (D 28 rfl) rfl ?_
  refine j_getr (N := 29) (sh := SH) C f_X1_11 ⟨by decide, rfl⟩ rfl rfl (r := 11) rfl (D 29 rfl) ?_
  refine j_iload_n C (D 30 rfl) rfl ?_
  refine j_new C B (ci := 10) (n := 9) (ty := tyX10) rfl us_X10 tyX10_ok (by decide) rfl (inT_mem (i := 247) (by decide +kernel)) (inT_mem (i := 122) (by decide +kernel)) (inT_mem (i := 211) (by decide +kernel)) rfl (fun k => (zI_m hI (by decide)) 29 k (Nat.le_refl _)) (fun k => (zL_m hL (by decide)) 29 k (Nat.le_refl _)) (fun k => (zR_up (zR_up (zR_up (zR_up (zR_up (zR_up (zR_up (zR_up (zR_up (zR_up (zR_up (zR_up (zR_up (zR_up (zR_up (zR_up (zR_up (zR_up (zR_m hR (by decide)) (by decide)) (by decide)) (by decide)) (by decide)) (by decide)) (by decide)) (by decide)) (by decide)) (by decide)) (by decide)) (by decide)) (by decide)) (by decide)) (by decide)) (by decide)) (by decide)) (by decide)) (by decide)) 29 k (Nat.le_refl _)) rfl (by decide) (D 31 rfl) ?_
  show J Z (19, 1615) _ _ _ (30, _)
  refine j_dup C (D 32 rfl) rfl ?_
  refine j_callIN' C B k_X1_34 (c_X10i _ _ (t := 29) rfl rfl rfl (by decide) (zI_m hI (by decide))) (As := []) rfl rfl rfl rfl (by decide) (D 33 rfl) ?_
  rintro r w' ⟨rfl, rfl⟩
  show J Z (21, 1631) _ _ _ (32, _)
  refine j_aastO (N := 32) (sh := SH) C (kd := 1) (ci := 10) (nf := 9) ⟨by decide, rfl⟩ (ix_n (by decide) (by decide)) ⟨by decide, rfl⟩ rfl rfl rfl (D 34 rfl) ?_
  refine j_iinc (v := nI 4) C (D 35 rfl) rfl rfl (by decide) ?_
  refine j_goto C 50 (D 36 rfl) (by decide) ?_
  refine j_iload_n C (D 25 rfl) rfl ?_
  refine j_bipush (v := nI 10) C (D 26 rfl) (by decide) ?_
  refine j_icmp_ge C 75 (D 27 rfl) (by decide) (fun h => absurd h (by decide)) (fun _ => ?_)
  refine j_aload_n C (D 28 rfl) rfl ?_
  refine j_getr (N := 32) (sh := SH) C f_X1_11 ⟨by decide, rfl⟩ rfl rfl (r := 11) rfl (D 29 rfl) ?_
  refine j_iload_n C (D 30 rfl) rfl ?_
  refine j_new C B (ci := 10) (n := 9) (ty := tyX10) rfl us_X10 tyX10_ok (by decide) rfl (inT_mem (i := 247) (by decide +kernel)) (inT_mem (i := 122) (by decide +kernel)) (inT_mem (i := 211) (by decide +kernel)) rfl (fun k => (zI_m hI (by decide)) 32 k (Nat.le_refl _)) (fun k => (zL_m hL (by decide)) 32 k (Nat.le_refl _)) (fun k => (zR_up (zR_up (zR_up (zR_up (zR_up (zR_up (zR_up (zR_up (zR_up (zR_up (zR_up (zR_up (zR_up (zR_up (zR_up (zR_up (zR_up (zR_up (zR_up (zR_up (zR_up (zR_m hR (by decide)) (by decide)) (by decide)) (by decide)) (by decide)) (by decide)) (by decide)) (by decide)) (by decide)) (by decide)) (by decide)) (by decide)) (by decide)) (by decide)) (by decide)) (by decide)) (by decide)) (by decide)) (by decide)) (by decide)) (by decide)) (by decide)) 32 k (Nat.le_refl _)) rfl (by decide) (D 31 rfl) ?_
  show J Z (22, 1640) _ _ _ (33, _)
  refine j_dup C (D 32 rfl) rfl ?_
  refine j_callIN' C B k_X1_34 (c_X10i _ _ (t := 32) rfl rfl rfl (by decide) (zI_m hI (by decide))) (As := []) rfl rfl rfl rfl (by decide) (D 33 rfl) ?_
  rintro r w' ⟨rfl, rfl⟩
  show J Z (24, 1656) _ _ _ (35, _)
  refine j_aastO (N := 35) (sh := SH) C (kd := 1) (ci := 10) (nf := 9) ⟨by decide, rfl⟩ (ix_n (by decide) (by decide)) ⟨by decide, rfl⟩ rfl rfl rfl (D 34 rfl) ?_
  refine j_iinc (v := nI 5) C (D 35 rfl) rfl rfl (by decide) ?_
  refine j_goto C 50 (D 36 rfl) (by decide) ?_
  refine j_iload_n C (D 25 rfl) rfl ?_
  refine j_bipush (v := nI 10) C (D 26 rfl) (by decide) ?_
  refine j_icmp_ge C 75 (D 27 rfl) (by decide) (fun h => absurd h (by decide)) (fun _ => ?_)
  refine j_aload_n C (D 28 rfl) rfl ?_
  refine j_getr (N := 35) (sh := SH) C f_X1_11 ⟨by decide, rfl⟩ rfl rfl (r := 11) rfl (D 29 rfl) ?_
  refine j_iload_n C (D 30 rfl) rfl ?_
  refine j_new C B (ci := 10) (n := 9) (ty := tyX10) rfl us_X10 tyX10_ok (by decide) rfl (inT_mem (i := 247) (by decide +kernel)) (inT_mem (i := 122) (by decide +kernel)) (inT_mem (i := 211) (by decide +kernel)) rfl (fun k => (zI_m hI (by decide)) 35 k (Nat.le_refl _)) (fun k => (zL_m hL (by decide)) 35 k (Nat.le_refl _)) (fun k => (zR_up (zR_up (zR_up (zR_up (zR_up (zR_up (zR_up (zR_up (zR_up (zR_up (zR_up (zR_up (zR_up (zR_up (zR_up (zR_up (zR_up (zR_up (zR_up (zR_up (zR_up (zR_up (zR_up (zR_up (zR_m hR (by decide)) (by decide)) (by decide)) (by decide)) (by decide)) (by decide)) (by decide)) (by decide)) (by decide)) (by decide)) (by decide)) (by decide)) (by decide)) (by decide)) (by decide)) (by decide)) (by decide)) (by decide)) (by decide)) (by decide)) (by decide)) (by decide)) (by decide)) (by decide)) (by decide)) 35 k (Nat.le_refl _)) rfl (by decide) (D 31 rfl) ?_
  show J Z (25, 1665) _ _ _ (36, _)
  refine j_dup C (D 32 rfl) rfl ?_
  refine j_callIN' C B k_X1_34 (c_X10i _ _ (t := 35) rfl rfl rfl (by decide) (zI_m hI (by decide))) (As := []) rfl rfl rfl rfl (by decide) (D 33 rfl) ?_
  rintro r w' ⟨rfl, rfl⟩
  show J Z (27, 1681) _ _ _ (38, _)
  refine j_aastO (N := 38) (sh := SH) C (kd := 1) (ci := 10) (nf := 9) ⟨by decide, rfl⟩ (ix_n (by decide) (by decide)) ⟨by decide, rfl⟩ rfl rfl rfl (D 34 rfl) ?_
  refine j_iinc (v := nI 6) C (D 35 rfl) rfl rfl (by decide) ?_
  refine j_goto C 50 (D 36 rfl) (by decide) ?_
  refine j_iload_n C (D 25 rfl) rfl ?_
  refine j_bipush (v := nI 10) C (D 26 rfl) (by decide) ?_
  refine j_icmp_ge C 75 (D 27 rfl) (by decide) (fun h => absurd h (by decide)) (fun _ => ?_)
  refine j_aload_n C (D 28 rfl) rfl ?_
  refine j_getr (N := 38) (sh := SH) C f_X1_11 ⟨by decide, rfl⟩ rfl rfl (r := 11) rfl (D 29 rfl) ?_
  refine j_iload_n C (D 30 rfl) rfl ?_
  refine j_new C B (ci := 10) (n := 9) (ty := tyX10) rfl us_X10 tyX10_ok (by decide) rfl (inT_mem (i := 247) (by decide +kernel)) (inT_mem (i := 122) (by decide +kernel)) (inT_mem (i := 211) (by decide +kernel)) rfl (fun k => (zI_m hI (by decide)) 38 k (Nat.le_refl _)) (fun k => (zL_m hL (by decide)) 38 k (Nat.le_refl _)) (fun k => (zR_up (zR_up (zR_up (zR_up (zR_up (zR_up (zR_up (zR_up (zR_up (zR_up (zR_up (zR_up (zR_up (zR_up (zR_up (zR_up (zR_up (zR_up (zR_up (zR_up (zR_up (zR_up (zR_up (zR_up (zR_up (zR_up (zR_up (zR_m hR (by decide)) (by decide)) (by decide)) (by decide)) (by decide)) (by decide)) (by decide)) (by decide)) (by decide)) (by decide)) (by decide)) (by decide)) (by decide)) (by decide)) (by decide)) (by decide)) (by decide)) (by decide)) (by decide)) (by decide)) (by decide)) (by decide)) (by decide)) (by decide)) (by decide)) (by decide)) (by decide)) (by decide)) 38 k (Nat.le_refl _)) rfl (by decide) (D 31 rfl) ?_
  show J Z (28, 1690) _ _ _ (39, _)
  refine j_dup C (D 32 rfl) rfl ?_
  refine j_callIN' C B k_X1_34 (c_X10i _ _ (t := 38) rfl rfl rfl (by decide) (zI_m hI (by decide))) (As := []) rfl rfl rfl rfl (by decide) (D 33 rfl) ?_
  rintro r w' ⟨rfl, rfl⟩
  show J Z (30, 1706) _ _ _ (41, _)
  refine j_aastO (N := 41) (sh := SH) C (kd := 1) (ci := 10) (nf := 9) ⟨by decide, rfl⟩ (ix_n (by decide) (by decide)) ⟨by decide, rfl⟩ rfl rfl rfl (D 34 rfl) ?_
  refine j_iinc (v := nI 7) C (D 35 rfl) rfl rfl (by decide) ?_
  refine j_goto C 50 (D 36 rfl) (by decide) ?_
  refine j_iload_n C (D 25 rfl) rfl ?_
  refine j_bipush (v := nI 10) C (D 26 rfl) (by decide) ?_
  refine j_icmp_ge C 75 (D 27 rfl) (by decide) (fun h => absurd h (by decide)) (fun _ => ?_)
  refine j_aload_n C (D 28 rfl) rfl ?_
  refine j_getr (N := 41) (sh := SH) C f_X1_11 ⟨by decide, rfl⟩ rfl rfl (r := 11) rfl (D 29 rfl) ?_
  refine j_iload_n C (D 30 rfl) rfl ?_
  refine j_new C B (ci := 10) (n := 9) (ty := tyX10) rfl us_X10 tyX10_ok (by decide) rfl (inT_mem (i := 247) (by decide +kernel)) (inT_mem (i := 122) (by decide +kernel)) (inT_mem (i := 211) (by decide +kernel)) rfl (fun k => (zI_m hI (by decide)) 41 k (Nat.le_refl _)) (fun k => (zL_m hL (by decide)) 41 k (Nat.le_refl _)) (fun k => (zR_up (zR_up (zR_up (zR_up (zR_up (zR_up (zR_up (zR_up (zR_up (zR_up (zR_up (zR_up (zR_up (zR_up (zR_up (zR_up (zR_up (zR_up (zR_up (zR_up (zR_up (zR_up (zR_up (zR_up (zR_up (zR_up (zR_up (zR_up (zR_up (zR_up (zR_m hR (by decide)) (by decide)) (by decide)) (by decide)) (by decide)) (by decide)) (by decide)) (by decide)) (by decide)) (by decide)) (by decide)) (by decide)) (by decide)) (by decide)) (by decide)) (by decide)) (by decide)) (by decide)) (by decide)) (by decide)) (by decide)) (by decide)) (by decide)) (by decide)) (by decide)) (by decide)) (by decide)) (by decide)) (by decide)) (by decide)) (by decide)) 41 k (Nat.le_refl _)) rfl (by decide) (D 31 rfl) ?_
  show J Z (31, 1715) _ _ _ (42, _)
  refine j_dup C (D 32 rfl) rfl ?_
  refine j_callIN' C B k_X1_34 (c_X10i _ _ (t := 41) rfl rfl rfl (by decide) (zI_m hI (by decide))) (As := []) rfl rfl rfl rfl (by decide) (D 33 rfl) ?_
  rintro r w' ⟨rfl, rfl⟩
  show J Z (33, 1731) _ _ _ (44, _)
  refine j_aastO (N := 44) (sh := SH) C (kd := 1) (ci := 10) (nf := 9) ⟨by decide, rfl⟩ (ix_n (by decide) (by decide)) ⟨by decide, rfl⟩ rfl rfl rfl (D 34 rfl) ?_
  refine j_iinc (v := nI 8) C (D 35 rfl) rfl rfl (by decide) ?_
  refine j_goto C 50 (D 36 rfl) (by decide) ?_
  refine j_iload_n C (D 25 rfl) rfl ?_
  refine j_bipush (v := nI 10) C (D 26 rfl) (by decide) ?_
  refine j_icmp_ge C 75 (D 27 rfl) (by decide) (fun h => absurd h (by decide)) (fun _ => ?_)
  refine j_aload_n C (D 28 rfl) rfl ?_
  refine j_getr (N := 44) (sh := SH) C f_X1_11 ⟨by decide, rfl⟩ rfl rfl (r := 11) rfl (D 29 rfl) ?_
  refine j_iload_n C (D 30 rfl) rfl ?_
  refine j_new C B (ci := 10) (n := 9) (ty := tyX10) rfl us_X10 tyX10_ok (by decide) rfl (inT_mem (i := 247) (by decide +kernel)) (inT_mem (i := 122) (by decide +kernel)) (inT_mem (i := 211) (by decide +kernel)) rfl (fun k => (zI_m hI (by decide)) 44 k (Nat.le_refl _)) (fun k => (zL_m hL (by decide)) 44 k (Nat.le_refl _)) (fun k => (zR_up (zR_up (zR_up (zR_up (zR_up (zR_up (zR_up (zR_up (zR_up (zR_up (zR_up (zR_up (zR_up (zR_up (zR_up (zR_up (zR_up (zR_up (zR_up (zR_up (zR_up (zR_up (zR_up (zR_up (zR_up (zR_up (zR_up (zR_up (zR_up (zR_up (zR_up (zR_up (zR_up (zR_m hR (by decide)) (by decide)) (by decide)) (by decide)) (by decide)) (by decide)) (by decide)) (by decide)) (by decide)) (by decide)) (by decide)) (by decide)) (by decide)) (by decide)) (by decide)) (by decide)) (by decide)) (by decide)) (by decide)) (by decide)) (by decide)) (by decide)) (by decide)) (by decide)) (by decide)) (by decide)) (by decide)) (by decide)) (by decide)) (by decide)) (by decide)) (by decide)) (by decide)) (by decide)) 44 k (Nat.le_refl _)) rfl (by decide) (D 31 rfl) ?_
  show J Z (34, 1740) _ _ _ (45, _)
  refine j_dup C (D 32 rfl) rfl ?_
  refine j_callIN' C B k_X1_34 (c_X10i _ _ (t := 44) rfl rfl rfl (by decide) (zI_m hI (by decide))) (As := []) rfl rfl rfl rfl (by decide) (D 33 rfl) ?_
  rintro r w' ⟨rfl, rfl⟩
  show J Z (36, 1756) _ _ _ (47, _)
  refine j_aastO (N := 47) (sh := SH) C (kd := 1) (ci := 10) (nf := 9) ⟨by decide, rfl⟩ (ix_n (by decide) (by decide)) ⟨by decide, rfl⟩ rfl rfl rfl (D 34 rfl) ?_
  refine j_iinc (v := nI 9) C (D 35 rfl) rfl rfl (by decide) ?_
  refine j_goto C 50 (D 36 rfl) (by decide) ?_
  refine j_iload_n C (D 25 rfl) rfl ?_
  refine j_bipush (v := nI 10) C (D 26 rfl) (by decide) ?_
  refine j_icmp_ge C 75 (D 27 rfl) (by decide) (fun h => absurd h (by decide)) (fun _ => ?_)
  refine j_aload_n C (D 28 rfl) rfl ?_
  refine j_getr (N := 47) (sh := SH) C f_X1_11 ⟨by decide, rfl⟩ rfl rfl (r := 11) rfl (D 29 rfl) ?_
  refine j_iload_n C (D 30 rfl) rfl ?_
  refine j_new C B (ci := 10) (n := 9) (ty := tyX10) rfl us_X10 tyX10_ok (by decide) rfl (inT_mem (i := 247) (by decide +kernel)) (inT_mem (i := 122) (by decide +kernel)) (inT_mem (i := 211) (by decide +kernel)) rfl (fun k => (zI_m hI (by decide)) 47 k (Nat.le_refl _)) (fun k => (zL_m hL (by decide)) 47 k (Nat.le_refl _)) (fun k => (zR_up (zR_up (zR_up (zR_up (zR_up (zR_up (zR_up (zR_up (zR_up (zR_up (zR_up (zR_up (zR_up (zR_up (zR_up (zR_up (zR_up (zR_up (zR_up (zR_up (zR_up (zR_up (zR_up (zR_up (zR_up (zR_up (zR_up (zR_up (zR_up (zR_up (zR_up (zR_up (zR_up (zR_up (zR_up (zR_up (zR_m hR (by decide)) (by decide)) (by decide)) (by decide)) (by decide)) (by decide)) (by decide)) (by decide)) (by decide)) (by decide)) (by decide)) (by decide)) (by decide)) (by decide)) (by decide)) (by decide)) (by decide)) (by decide)) (by decide)) (by decide)) (by decide)) (by decide)) (by decide)) (by decide)) (by decide)) (by decide)) (by decide)) (by decide)) (by decide)) (by decide)) (by decide)) (by decide)) (by decide)) (by decide)) (by decide)) (by decide)) (by decide)) 47 k (Nat.le_refl _)) rfl (by decide) (D 31 rfl) ?_
  show J Z (37, 1765) _ _ _ (48, _)
  refine j_dup C (D 32 rfl) rfl ?_
  refine j_callIN' C B k_X1_34 (c_X10i _ _ (t := 47) rfl rfl rfl (by decide) (zI_m hI (by decide))) (As := []) rfl rfl rfl rfl (by decide) (D 33 rfl) ?_
  rintro r w' ⟨rfl, rfl⟩
  show J Z (39, 1781) _ _ _ (50, _)
  refine j_aastO (N := 50) (sh := SH) C (kd := 1) (ci := 10) (nf := 9) ⟨by decide, rfl⟩ (ix_n (by decide) (by decide)) ⟨by decide, rfl⟩ rfl rfl rfl (D 34 rfl) ?_
  refine j_iinc (v := nI 10) C (D 35 rfl) rfl rfl (by decide) ?_
  refine j_goto C 50 (D 36 rfl) (by decide) ?_
  refine j_iload_n C (D 25 rfl) rfl ?_
  refine j_bipush (v := nI 10) C (D 26 rfl) (by decide) ?_
  refine j_icmp_ge C 75 (D 27 rfl) (by decide) (fun _ => ?_) (fun h => absurd (by decide) h)
  exact j_vret C P rfl (D 37 rfl) (by decide) ⟨rfl, rfl⟩
def r_ct55 (R : Nat → Nat → Option Nat) : Nat → Nat → Option Nat := (up2 (up2 (up2 (up2 (up2 (up2 (up2 (up2 (up2 (up2 (up2 (up2 (up2 (up2 (up2 (up2 (up2 (up2 (up2 (up2 (up2 (up2 (up2 (up2 (up2 (up2 (up2 (up2 (up2 (up2 (up2 (up2 (up2 (up2 (up2 (up2 (up2 (up2 (up2 R 55 0 (some 56)) 55 1 (some 57)) 55 2 (some 58)) 55 3 (some 59)) 60 0 (some 61)) 60 2 (some 62)) 60 3 (some 63)) 60 6 (some 64)) 55 4 (some 60)) 65 7 (some 66)) 65 8 (some 67)) 56 0 (some 65)) 68 7 (some 69)) 68 8 (some 70)) 56 1 (some 68)) 71 7 (some 72)) 71 8 (some 73)) 56 2 (some 71)) 74 7 (some 75)) 74 8 (some 76)) 56 3 (some 74)) 77 7 (some 78)) 77 8 (some 79)) 56 4 (some 77)) 80 7 (some 81)) 80 8 (some 82)) 56 5 (some 80)) 83 7 (some 84)) 83 8 (some 85)) 56 6 (some 83)) 86 7 (some 87)) 86 8 (some 88)) 56 7 (some 86)) 89 7 (some 90)) 89 8 (some 91)) 56 8 (some 89)) 92 7 (some 93)) 92 8 (some 94)) 56 9 (some 92))
theorem z_r_ct55 {R : Nat → Nat → Option Nat} (hR : zR' R 56) : zR' (r_ct55 R) 95 := (zR_up (zR_up (zR_up (zR_up (zR_up (zR_up (zR_up (zR_up (zR_up (zR_up (zR_up (zR_up (zR_up (zR_up (zR_up (zR_up (zR_up (zR_up (zR_up (zR_up (zR_up (zR_up (zR_up (zR_up (zR_up (zR_up (zR_up (zR_up (zR_up (zR_up (zR_up (zR_up (zR_up (zR_up (zR_up (zR_up (zR_up (zR_up (zR_up (zR_m hR (by decide)) (by decide)) (by decide)) (by decide)) (by decide)) (by decide)) (by decide)) (by decide)) (by decide)) (by decide)) (by decide)) (by decide)) (by decide)) (by decide)) (by decide)) (by decide)) (by decide)) (by decide)) (by decide)) (by decide)) (by decide)) (by decide)) (by decide)) (by decide)) (by decide)) (by decide)) (by decide)) (by decide)) (by decide)) (by decide)) (by decide)) (by decide)) (by decide)) (by decide)) (by decide)) (by decide)) (by decide)) (by decide)) (by decide)) (by decide))
set_option maxRecDepth 20000 in
set_option maxHeartbeats 4000000 in
theorem c_X1i55 (l : Launch) (G : GT) {I : Nat → Nat → Int32} {L : Nat → Nat → Int64} {R : Nat → Nat → Option Nat} (hI : zI I 56) (hL : zL L 56) (hR : zR' R 56) : Mt l G mX1_init 2 39 1781 [.ref (ra G 55)] (56, SH, I, L, R) (fun r w' => r = none ∧ w' = (95, SH, I, L, r_ct55 R)) := by
  refine mt_of (own := RX1) (by decide) rfl rfl (fun Z C P B => ?_)
  have D := @dc_of _ _ dX1_init
  refine j_aload_n C (D 0 rfl) rfl ?_
  refine j_oinit C B (inT_mem (i := 210) (by decide +kernel)) rfl rfl (D 1 rfl) ?_
  refine j_aload_n C (D 2 rfl) rfl ?_
  refine j_bipush (v := nI 10) C (D 3 rfl) (by decide) ?_
  refine j_anew C B (kd := 1) (n := 10) (c := "TenTrials$Trial") rfl C.2.2.2.2.2.2.2.2.1.2.2.2.2.2.2.2.2.2.2.1 (inT_mem (i := 211) (by decide +kernel)) rfl (by decide) (by decide) rfl (fun k => (zR_m hR (by decide)) 56 k (Nat.le_refl _)) rfl (by decide) (D 4 rfl) ?_
  show J Z (1, 10) _ _ _ (57, _)
  refine j_putFr (N := 57) (sh := SH) C f_X1_11 rfl rfl ⟨TX1, rfl⟩ ⟨by decide, rfl⟩ rfl rfl (D 5 rfl) ?_
  refine j_aload_n C (D 6 rfl) rfl ?_
  refine j_bipush (v := nI 80) C (D 7 rfl) (by decide) ?_
  refine j_newint C B (n := 80) rfl (by decide) (by decide) rfl (fun k => (zI_m hI (by decide)) 57 k (Nat.le_refl _)) rfl (by decide) (D 8 rfl) ?_
  show J Z (2, 90) _ _ _ (58, _)
  refine j_putFr (N := 58) (sh := SH) C f_X1_17 rfl rfl ⟨TX1, rfl⟩ ⟨by decide, rfl⟩ rfl rfl (D 9 rfl) ?_
  refine j_aload_n C (D 10 rfl) rfl ?_
  refine j_bipush (v := nI 80) C (D 11 rfl) (by decide) ?_
  refine j_newint C B (n := 80) rfl (by decide) (by decide) rfl (fun k => (zI_m hI (by decide)) 58 k (Nat.le_refl _)) rfl (by decide) (D 12 rfl) ?_
  show J Z (3, 170) _ _ _ (59, _)
  refine j_putFr (N := 59) (sh := SH) C f_X1_21 rfl rfl ⟨TX1, rfl⟩ ⟨by decide, rfl⟩ rfl rfl (D 13 rfl) ?_
  refine j_aload_n C (D 14 rfl) rfl ?_
  refine j_bipush (v := nI 80) C (D 15 rfl) (by decide) ?_
  refine j_newint C B (n := 80) rfl (by decide) (by decide) rfl (fun k => (zI_m hI (by decide)) 59 k (Nat.le_refl _)) rfl (by decide) (D 16 rfl) ?_
  show J Z (4, 250) _ _ _ (60, _)
  refine j_putFr (N := 60) (sh := SH) C f_X1_24 rfl rfl ⟨TX1, rfl⟩ ⟨by decide, rfl⟩ rfl rfl (D 17 rfl) ?_
  refine j_aload_n C (D 18 rfl) rfl ?_
  refine j_new C B (ci := 0) (n := 8) (ty := tyX0) rfl us_X0 tyX0_ok (by decide) rfl (inT_mem (i := 214) (by decide +kernel)) (inT_mem (i := 121) (by decide +kernel)) (inT_mem (i := 213) (by decide +kernel)) rfl (fun k => (zI_m hI (by decide)) 60 k (Nat.le_refl _)) (fun k => (zL_m hL (by decide)) 60 k (Nat.le_refl _)) (fun k => (zR_up (zR_up (zR_up (zR_up (zR_m hR (by decide)) (by decide)) (by decide)) (by decide)) (by decide)) 60 k (Nat.le_refl _)) rfl (by decide) (D 19 rfl) ?_
  show J Z (5, 258) _ _ _ (61, _)
  refine j_dup C (D 20 rfl) rfl ?_
  refine j_callIN' C B k_X1_29 (c_X0i _ _ (b := 60) rfl rfl rfl rfl rfl (by decide) (zI_m hI (by decide))) (As := []) rfl rfl rfl rfl (by decide) (D 21 rfl) ?_
  rintro r w' ⟨rfl, rfl⟩
  show J Z (9, 1531) _ _ _ (65, _)
  refine j_putFr (N := 65) (sh := SH) C f_X1_30 rfl rfl ⟨TX1, rfl⟩ ⟨by decide, rfl⟩ rfl rfl (D 22 rfl) ?_
  refine j_iconst (v := nI 0) C (D 23 rfl) (by decide) ?_
  refine j_istore_n C (D 24 rfl) rfl ?_
  refine j_iload_n C (D 25 rfl) rfl ?_
  refine j_bipush (v := nI 10) C (D 26 rfl) (by decide) ?_
  refine j_icmp_ge C 75 (D 27 rfl) (by decide) (fun h => absurd h (by decide)) (fun _ => ?_)
  refine j_aload_n C (D 28 rfl) rfl ?_
  refine j_getr (N := 65) (sh := SH) C f_X1_11 ⟨by decide, rfl⟩ rfl rfl (r := 56) rfl (D 29 rfl) ?_
  refine j_iload_n C (D 30 rfl) rfl ?_
  refine j_new C B (ci := 10) (n := 9) (ty := tyX10) rfl us_X10 tyX10_ok (by decide) rfl (inT_mem (i := 247) (by decide +kernel)) (inT_mem (i := 122) (by decide +kernel)) (inT_mem (i := 211) (by decide +kernel)) rfl (fun k => (zI_m hI (by decide)) 65 k (Nat.le_refl _)) (fun k => (zL_m hL (by decide)) 65 k (Nat.le_refl _)) (fun k => (zR_up (zR_up (zR_up (zR_up (zR_up (zR_up (zR_up (zR_up (zR_up (zR_m hR (by decide)) (by decide)) (by decide)) (by decide)) (by decide)) (by decide)) (by decide)) (by decide)) (by decide)) (by decide)) 65 k (Nat.le_refl _)) rfl (by decide) (D 31 rfl) ?_
  show J Z (10, 1540) _ _ _ (66, _)
  refine j_dup C (D 32 rfl) rfl ?_
  refine j_callIN' C B k_X1_34 (c_X10i _ _ (t := 65) rfl rfl rfl (by decide) (zI_m hI (by decide))) (As := []) rfl rfl rfl rfl (by decide) (D 33 rfl) ?_
  rintro r w' ⟨rfl, rfl⟩
  show J Z (12, 1556) _ _ _ (68, _)
  refine j_aastO (N := 68) (sh := SH) C (kd := 1) (ci := 10) (nf := 9) ⟨by decide, rfl⟩ (ix_n (by decide) (by decide)) ⟨by decide, rfl⟩ rfl rfl rfl (D 34 rfl) ?_
  refine j_iinc (v := nI 1) C (D 35 rfl) rfl rfl (by decide) ?_
  refine j_goto C 50 (D 36 rfl) (by decide) ?_
  refine j_iload_n C (D 25 rfl) rfl ?_
  refine j_bipush (v := nI 10) C (D 26 rfl) (by decide) ?_
  refine j_icmp_ge C 75 (D 27 rfl) (by decide) (fun h => absurd h (by decide)) (fun _ => ?_)
  refine j_aload_n C (D 28 rfl) rfl ?_
  refine j_getr (N := 68) (sh := SH) C f_X1_11 ⟨by decide, rfl⟩ rfl rfl (r := 56) rfl (D 29 rfl) ?_
  refine j_iload_n C (D 30 rfl) rfl ?_
  refine j_new C B (ci := 10) (n := 9) (ty := tyX10) rfl us_X10 tyX10_ok (by decide) rfl (inT_mem (i := 247) (by decide +kernel)) (inT_mem (i := 122) (by decide +kernel)) (inT_mem (i := 211) (by decide +kernel)) rfl (fun k => (zI_m hI (by decide)) 68 k (Nat.le_refl _)) (fun k => (zL_m hL (by decide)) 68 k (Nat.le_refl _)) (fun k => (zR_up (zR_up (zR_up (zR_up (zR_up (zR_up (zR_up (zR_up (zR_up (zR_up (zR_up (zR_up (zR_m hR (by decide)) (by decide)) (by decide)) (by decide)) (by decide)) (by decide)) (by decide)) (by decide)) (by decide)) (by decide)) (by decide)) (by decide)) (by decide)) 68 k (Nat.le_refl _)) rfl (by decide) (D 31 rfl) ?_
  show J Z (13, 1565) _ _ _ (69, _)
  refine j_dup C (D 32 rfl) rfl ?_
  refine j_callIN' C B k_X1_34 (c_X10i _ _ (t := 68) rfl rfl rfl (by decide) (zI_m hI (by decide))) (As := []) rfl rfl rfl rfl (by decide) (D 33 rfl) ?_
  rintro r w' ⟨rfl, rfl⟩
  show J Z (15, 1581) _ _ _ (71, _)
  refine j_aastO (N := 71) (sh := SH) C (kd := 1) (ci := 10) (nf := 9) ⟨by decide, rfl⟩ (ix_n (by decide) (by decide)) ⟨by decide, rfl⟩ rfl rfl rfl (D 34 rfl) ?_
  refine j_iinc (v := nI 2) C (D 35 rfl) rfl rfl (by decide) ?_
  refine j_goto C 50 (D 36 rfl) (by decide) ?_
  refine j_iload_n C (D 25 rfl) rfl ?_
  refine j_bipush (v := nI 10) C (D 26 rfl) (by decide) ?_
  refine j_icmp_ge C 75 (D 27 rfl) (by decide) (fun h => absurd h (by decide)) (fun _ => ?_)
  refine j_aload_n C (D 28 rfl) rfl ?_
  refine j_getr (N := 71) (sh := SH) C f_X1_11 ⟨by decide, rfl⟩ rfl rfl (r := 56) rfl (D 29 rfl) ?_
  refine j_iload_n C (D 30 rfl) rfl ?_
  refine j_new C B (ci := 10) (n := 9) (ty := tyX10) rfl us_X10 tyX10_ok (by decide) rfl (inT_mem (i := 247) (by decide +kernel)) (inT_mem (i := 122) (by decide +kernel)) (inT_mem (i := 211) (by decide +kernel)) rfl (fun k => (zI_m hI (by decide)) 71 k (Nat.le_refl _)) (fun k => (zL_m hL (by decide)) 71 k (Nat.le_refl _)) (fun k => (zR_up (zR_up (zR_up (zR_up (zR_up (zR_up (zR_up (zR_up (zR_up (zR_up (zR_up (zR_up (zR_up (zR_up (zR_up (zR_m hR (by decide)) (by decide)) (by decide)) (by decide)) (by decide)) (by decide)) (by decide)) (by decide)) (by decide)) (by decide)) (by decide)) (by decide)) (by decide)) (by decide)) (by decide)) (by decide)) 71 k (Nat.le_refl _)) rfl (by decide) (D 31 rfl) ?_
  show J Z (16, 1590) _ _ _ (72, _)
  refine j_dup C (D 32 rfl) rfl ?_
  refine j_callIN' C B k_X1_34 (c_X10i _ _ (t := 71) rfl rfl rfl (by decide) (zI_m hI (by decide))) (As := []) rfl rfl rfl rfl (by decide) (D 33 rfl) ?_
  rintro r w' ⟨rfl, rfl⟩
  show J Z (18, 1606) _ _ _ (74, _)
  refine j_aastO (N := 74) (sh := SH) C (kd := 1) (ci := 10) (nf := 9) ⟨by decide, rfl⟩ (ix_n (by decide) (by decide)) ⟨by decide, rfl⟩ rfl rfl rfl (D 34 rfl) ?_
  refine j_iinc (v := nI 3) C (D 35 rfl) rfl rfl (by decide) ?_
  refine j_goto C 50 (D 36 rfl) (by decide) ?_
  refine j_iload_n C (D 25 rfl) rfl ?_
  refine j_bipush (v := nI 10) C (D 26 rfl) (by decide) ?_
  refine j_icmp_ge C 75 (D 27 rfl) (by decide) (fun h => absurd h (by decide)) (fun _ => ?_)
  refine j_aload_n C (D 28 rfl) rfl ?_
  refine j_getr (N := 74) (sh := SH) C f_X1_11 ⟨by decide, rfl⟩ rfl rfl (r := 56) rfl (D 29 rfl) ?_
  refine j_iload_n C (D 30 rfl) rfl ?_
  refine j_new C B (ci := 10) (n := 9) (ty := tyX10) rfl us_X10 tyX10_ok (by decide) rfl (inT_mem (i := 247) (by decide +kernel)) (inT_mem (i := 122) (by decide +kernel)) (inT_mem (i := 211) (by decide +kernel)) rfl (fun k => (zI_m hI (by decide)) 74 k (Nat.le_refl _)) (fun k => (zL_m hL (by decide)) 74 k (Nat.le_refl _)) (fun k => (zR_up (zR_up (zR_up (zR_up (zR_up (zR_up (zR_up (zR_up (zR_up (zR_up (zR_up (zR_up (zR_up (zR_up (zR_up (zR_up (zR_up (zR_up (zR_m hR (by decide)) (by decide)) (by decide)) (by decide)) (by decide)) (by decide)) (by decide)) (by decide)) (by decide)) (by decide)) (by decide)) (by decide)) (by decide)) (by decide)) (by decide)) (by decide)) (by decide)) (by decide)) (by decide)) 74 k (Nat.le_refl _)) rfl (by decide) (D 31 rfl) ?_
  show J Z (19, 1615) _ _ _ (75, _)
  refine j_dup C (D 32 rfl) rfl ?_
  refine j_callIN' C B k_X1_34 (c_X10i _ _ (t := 74) rfl rfl rfl (by decide) (zI_m hI (by decide))) (As := []) rfl rfl rfl rfl (by decide) (D 33 rfl) ?_
  rintro r w' ⟨rfl, rfl⟩
  show J Z (21, 1631) _ _ _ (77, _)
  refine j_aastO (N := 77) (sh := SH) C (kd := 1) (ci := 10) (nf := 9) ⟨by decide, rfl⟩ (ix_n (by decide) (by decide)) ⟨by decide, rfl⟩ rfl rfl rfl (D 34 rfl) ?_
  refine j_iinc (v := nI 4) C (D 35 rfl) rfl rfl (by decide) ?_
  refine j_goto C 50 (D 36 rfl) (by decide) ?_
  refine j_iload_n C (D 25 rfl) rfl ?_
  refine j_bipush (v := nI 10) C (D 26 rfl) (by decide) ?_
  refine j_icmp_ge C 75 (D 27 rfl) (by decide) (fun h => absurd h (by decide)) (fun _ => ?_)
  refine j_aload_n C (D 28 rfl) rfl ?_
  refine j_getr (N := 77) (sh := SH) C f_X1_11 ⟨by decide, rfl⟩ rfl rfl (r := 56) rfl (D 29 rfl) ?_
  refine j_iload_n C (D 30 rfl) rfl ?_
  refine j_new C B (ci := 10) (n := 9) (ty := tyX10) rfl us_X10 tyX10_ok (by decide) rfl (inT_mem (i := 247) (by decide +kernel)) (inT_mem (i := 122) (by decide +kernel)) (inT_mem (i := 211) (by decide +kernel)) rfl (fun k => (zI_m hI (by decide)) 77 k (Nat.le_refl _)) (fun k => (zL_m hL (by decide)) 77 k (Nat.le_refl _)) (fun k => (zR_up (zR_up (zR_up (zR_up (zR_up (zR_up (zR_up (zR_up (zR_up (zR_up (zR_up (zR_up (zR_up (zR_up (zR_up (zR_up (zR_up (zR_up (zR_up (zR_up (zR_up (zR_m hR (by decide)) (by decide)) (by decide)) (by decide)) (by decide)) (by decide)) (by decide)) (by decide)) (by decide)) (by decide)) (by decide)) (by decide)) (by decide)) (by decide)) (by decide)) (by decide)) (by decide)) (by decide)) (by decide)) (by decide)) (by decide)) (by decide)) 77 k (Nat.le_refl _)) rfl (by decide) (D 31 rfl) ?_
  show J Z (22, 1640) _ _ _ (78, _)
  refine j_dup C (D 32 rfl) rfl ?_
  refine j_callIN' C B k_X1_34 (c_X10i _ _ (t := 77) rfl rfl rfl (by decide) (zI_m hI (by decide))) (As := []) rfl rfl rfl rfl (by decide) (D 33 rfl) ?_
  rintro r w' ⟨rfl, rfl⟩
  show J Z (24, 1656) _ _ _ (80, _)
  refine j_aastO (N := 80) (sh := SH) C (kd := 1) (ci := 10) (nf := 9) ⟨by decide, rfl⟩ (ix_n (by decide) (by decide)) ⟨by decide, rfl⟩ rfl rfl rfl (D 34 rfl) ?_
  refine j_iinc (v := nI 5) C (D 35 rfl) rfl rfl (by decide) ?_
  refine j_goto C 50 (D 36 rfl) (by decide) ?_
  refine j_iload_n C (D 25 rfl) rfl ?_
  refine j_bipush (v := nI 10) C (D 26 rfl) (by decide) ?_
  refine j_icmp_ge C 75 (D 27 rfl) (by decide) (fun h => absurd h (by decide)) (fun _ => ?_)
  refine j_aload_n C (D 28 rfl) rfl ?_
  refine j_getr (N := 80) (sh := SH) C f_X1_11 ⟨by decide, rfl⟩ rfl rfl (r := 56) rfl (D 29 rfl) ?_
  refine j_iload_n C (D 30 rfl) rfl ?_
  refine j_new C B (ci := 10) (n := 9) (ty := tyX10) rfl us_X10 tyX10_ok (by decide) rfl (inT_mem (i := 247) (by decide +kernel)) (inT_mem (i := 122) (by decide +kernel)) (inT_mem (i := 211) (by decide +kernel)) rfl (fun k => (zI_m hI (by decide)) 80 k (Nat.le_refl _)) (fun k => (zL_m hL (by decide)) 80 k (Nat.le_refl _)) (fun k => (zR_up (zR_up (zR_up (zR_up (zR_up (zR_up (zR_up (zR_up (zR_up (zR_up (zR_up (zR_up (zR_up (zR_up (zR_up (zR_up (zR_up (zR_up (zR_up (zR_up (zR_up (zR_up (zR_up (zR_up (zR_m hR (by decide)) (by decide)) (by decide)) (by decide)) (by decide)) (by decide)) (by decide)) (by decide)) (by decide)) (by decide)) (by decide)) (by decide)) (by decide)) (by decide)) (by decide)) (by decide)) (by decide)) (by decide)) (by decide)) (by decide)) (by decide)) (by decide)) (by decide)) (by decide)) (by decide)) 80 k (Nat.le_refl _)) rfl (by decide) (D 31 rfl) ?_
  show J Z (25, 1665) _ _ _ (81, _)
  refine j_dup C (D 32 rfl) rfl ?_
  refine j_callIN' C B k_X1_34 (c_X10i _ _ (t := 80) rfl rfl rfl (by decide) (zI_m hI (by decide))) (As := []) rfl rfl rfl rfl (by decide) (D 33 rfl) ?_
  rintro r w' ⟨rfl, rfl⟩
  show J Z (27, 1681) _ _ _ (83, _)
  refine j_aastO (N := 83) (sh := SH) C (kd := 1) (ci := 10) (nf := 9) ⟨by decide, rfl⟩ (ix_n (by decide) (by decide)) ⟨by decide, rfl⟩ rfl rfl rfl (D 34 rfl) ?_
  refine j_iinc (v := nI 6) C (D 35 rfl) rfl rfl (by decide) ?_
  refine j_goto C 50 (D 36 rfl) (by decide) ?_
  refine j_iload_n C (D 25 rfl) rfl ?_
  refine j_bipush (v := nI 10) C (D 26 rfl) (by decide) ?_
  refine j_icmp_ge C 75 (D 27 rfl) (by decide) (fun h => absurd h (by decide)) (fun _ => ?_)
  refine j_aload_n C (D 28 rfl) rfl ?_
  refine j_getr (N := 83) (sh := SH) C f_X1_11 ⟨by decide, rfl⟩ rfl rfl (r := 56) rfl (D 29 rfl) ?_
  refine j_iload_n C (D 30 rfl) rfl ?_
  refine j_new C B (ci := 10) (n := 9) (ty := tyX10) rfl us_X10 tyX10_ok (by decide) rfl (inT_mem (i := 247) (by decide +kernel)) (inT_mem (i := 122) (by decide +kernel)) (inT_mem (i := 211) (by decide +kernel)) rfl (fun k => (zI_m hI (by decide)) 83 k (Nat.le_refl _)) (fun k => (zL_m hL (by decide)) 83 k (Nat.le_refl _)) (fun k => (zR_up (zR_up (zR_up (zR_up (zR_up (zR_up (zR_up (zR_up (zR_up (zR_up (zR_up (zR_up (zR_up (zR_up (zR_up (zR_up (zR_up (zR_up (zR_up (zR_up (zR_up (zR_up (zR_up (zR_up (zR_up (zR_up (zR_up (zR_m hR (by decide)) (by decide)) (by decide)) (by decide)) (by decide)) (by decide)) (by decide)) (by decide)) (by decide)) (by decide)) (by decide)) (by decide)) (by decide)) (by decide)) (by decide)) (by decide)) (by decide)) (by decide)) (by decide)) (by decide)) (by decide)) (by decide)) (by decide)) (by decide)) (by decide)) (by decide)) (by decide)) (by decide)) 83 k (Nat.le_refl _)) rfl (by decide) (D 31 rfl) ?_
  show J Z (28, 1690) _ _ _ (84, _)
  refine j_dup C (D 32 rfl) rfl ?_
  refine j_callIN' C B k_X1_34 (c_X10i _ _ (t := 83) rfl rfl rfl (by decide) (zI_m hI (by decide))) (As := []) rfl rfl rfl rfl (by decide) (D 33 rfl) ?_
  rintro r w' ⟨rfl, rfl⟩
  show J Z (30, 1706) _ _ _ (86, _)
  refine j_aastO (N := 86) (sh := SH) C (kd := 1) (ci := 10) (nf := 9) ⟨by decide, rfl⟩ (ix_n (by decide) (by decide)) ⟨by decide, rfl⟩ rfl rfl rfl (D 34 rfl) ?_
  refine j_iinc (v := nI 7) C (D 35 rfl) rfl rfl (by decide) ?_
  refine j_goto C 50 (D 36 rfl) (by decide) ?_
  refine j_iload_n C (D 25 rfl) rfl ?_
  refine j_bipush (v := nI 10) C (D 26 rfl) (by decide) ?_
  refine j_icmp_ge C 75 (D 27 rfl) (by decide) (fun h => absurd h (by decide)) (fun _ => ?_)
  refine j_aload_n C (D 28 rfl) rfl ?_
  refine j_getr (N := 86) (sh := SH) C f_X1_11 ⟨by decide, rfl⟩ rfl rfl (r := 56) rfl (D 29 rfl) ?_
  refine j_iload_n C (D 30 rfl) rfl ?_
  refine j_new C B (ci := 10) (n := 9) (ty := tyX10) rfl us_X10 tyX10_ok (by decide) rfl (inT_mem (i := 247) (by decide +kernel)) (inT_mem (i := 122) (by decide +kernel)) (inT_mem (i := 211) (by decide +kernel)) rfl (fun k => (zI_m hI (by decide)) 86 k (Nat.le_refl _)) (fun k => (zL_m hL (by decide)) 86 k (Nat.le_refl _)) (fun k => (zR_up (zR_up (zR_up (zR_up (zR_up (zR_up (zR_up (zR_up (zR_up (zR_up (zR_up (zR_up (zR_up (zR_up (zR_up (zR_up (zR_up (zR_up (zR_up (zR_up (zR_up (zR_up (zR_up (zR_up (zR_up (zR_up (zR_up (zR_up (zR_up (zR_up (zR_m hR (by decide)) (by decide)) (by decide)) (by decide)) (by decide)) (by decide)) (by decide)) (by decide)) (by decide)) (by decide)) (by decide)) (by decide)) (by decide)) (by decide)) (by decide)) (by decide)) (by decide)) (by decide)) (by decide)) (by decide)) (by decide)) (by decide)) (by decide)) (by decide)) (by decide)) (by decide)) (by decide)) (by decide)) (by decide)) (by decide)) (by decide)) 86 k (Nat.le_refl _)) rfl (by decide) (D 31 rfl) ?_
  show J Z (31, 1715) _ _ _ (87, _)
  refine j_dup C (D 32 rfl) rfl ?_
  refine j_callIN' C B k_X1_34 (c_X10i _ _ (t := 86) rfl rfl rfl (by decide) (zI_m hI (by decide))) (As := []) rfl rfl rfl rfl (by decide) (D 33 rfl) ?_
  rintro r w' ⟨rfl, rfl⟩
  show J Z (33, 1731) _ _ _ (89, _)
  refine j_aastO (N := 89) (sh := SH) C (kd := 1) (ci := 10) (nf := 9) ⟨by decide, rfl⟩ (ix_n (by decide) (by decide)) ⟨by decide, rfl⟩ rfl rfl rfl (D 34 rfl) ?_
  refine j_iinc (v := nI 8) C (D 35 rfl) rfl rfl (by decide) ?_
  refine j_goto C 50 (D 36 rfl) (by decide) ?_
  refine j_iload_n C (D 25 rfl) rfl ?_
  refine j_bipush (v := nI 10) C (D 26 rfl) (by decide) ?_
  refine j_icmp_ge C 75 (D 27 rfl) (by decide) (fun h => absurd h (by decide)) (fun _ => ?_)
  refine j_aload_n C (D 28 rfl) rfl ?_
  refine j_getr (N := 89) (sh := SH) C f_X1_11 ⟨by decide, rfl⟩ rfl rfl (r := 56) rfl (D 29 rfl) ?_
  refine j_iload_n C (D 30 rfl) rfl ?_
  refine j_new C B (ci := 10) (n := 9) (ty := tyX10) rfl us_X10 tyX10_ok (by decide) rfl (inT_mem (i := 247) (by decide +kernel)) (inT_mem (i := 122) (by decide +kernel)) (inT_mem (i := 211) (by decide +kernel)) rfl (fun k => (zI_m hI (by decide)) 89 k (Nat.le_refl _)) (fun k => (zL_m hL (by decide)) 89 k (Nat.le_refl _)) (fun k => (zR_up (zR_up (zR_up (zR_up (zR_up (zR_up (zR_up (zR_up (zR_up (zR_up (zR_up (zR_up (zR_up (zR_up (zR_up (zR_up (zR_up (zR_up (zR_up (zR_up (zR_up (zR_up (zR_up (zR_up (zR_up (zR_up (zR_up (zR_up (zR_up (zR_up (zR_up (zR_up (zR_up (zR_m hR (by decide)) (by decide)) (by decide)) (by decide)) (by decide)) (by decide)) (by decide)) (by decide)) (by decide)) (by decide)) (by decide)) (by decide)) (by decide)) (by decide)) (by decide)) (by decide)) (by decide)) (by decide)) (by decide)) (by decide)) (by decide)) (by decide)) (by decide)) (by decide)) (by decide)) (by decide)) (by decide)) (by decide)) (by decide)) (by decide)) (by decide)) (by decide)) (by decide)) (by decide)) 89 k (Nat.le_refl _)) rfl (by decide) (D 31 rfl) ?_
  show J Z (34, 1740) _ _ _ (90, _)
  refine j_dup C (D 32 rfl) rfl ?_
  refine j_callIN' C B k_X1_34 (c_X10i _ _ (t := 89) rfl rfl rfl (by decide) (zI_m hI (by decide))) (As := []) rfl rfl rfl rfl (by decide) (D 33 rfl) ?_
  rintro r w' ⟨rfl, rfl⟩
  show J Z (36, 1756) _ _ _ (92, _)
  refine j_aastO (N := 92) (sh := SH) C (kd := 1) (ci := 10) (nf := 9) ⟨by decide, rfl⟩ (ix_n (by decide) (by decide)) ⟨by decide, rfl⟩ rfl rfl rfl (D 34 rfl) ?_
  refine j_iinc (v := nI 9) C (D 35 rfl) rfl rfl (by decide) ?_
  refine j_goto C 50 (D 36 rfl) (by decide) ?_
  refine j_iload_n C (D 25 rfl) rfl ?_
  refine j_bipush (v := nI 10) C (D 26 rfl) (by decide) ?_
  refine j_icmp_ge C 75 (D 27 rfl) (by decide) (fun h => absurd h (by decide)) (fun _ => ?_)
  refine j_aload_n C (D 28 rfl) rfl ?_
  refine j_getr (N := 92) (sh := SH) C f_X1_11 ⟨by decide, rfl⟩ rfl rfl (r := 56) rfl (D 29 rfl) ?_
  refine j_iload_n C (D 30 rfl) rfl ?_
  refine j_new C B (ci := 10) (n := 9) (ty := tyX10) rfl us_X10 tyX10_ok (by decide) rfl (inT_mem (i := 247) (by decide +kernel)) (inT_mem (i := 122) (by decide +kernel)) (inT_mem (i := 211) (by decide +kernel)) rfl (fun k => (zI_m hI (by decide)) 92 k (Nat.le_refl _)) (fun k => (zL_m hL (by decide)) 92 k (Nat.le_refl _)) (fun k => (zR_up (zR_up (zR_up (zR_up (zR_up (zR_up (zR_up (zR_up (zR_up (zR_up (zR_up (zR_up (zR_up (zR_up (zR_up (zR_up (zR_up (zR_up (zR_up (zR_up (zR_up (zR_up (zR_up (zR_up (zR_up (zR_up (zR_up (zR_up (zR_up (zR_up (zR_up (zR_up (zR_up (zR_up (zR_up (zR_up (zR_m hR (by decide)) (by decide)) (by decide)) (by decide)) (by decide)) (by decide)) (by decide)) (by decide)) (by decide)) (by decide)) (by decide)) (by decide)) (by decide)) (by decide)) (by decide)) (by decide)) (by decide)) (by decide)) (by decide)) (by decide)) (by decide)) (by decide)) (by decide)) (by decide)) (by decide)) (by decide)) (by decide)) (by decide)) (by decide)) (by decide)) (by decide)) (by decide)) (by decide)) (by decide)) (by decide)) (by decide)) (by decide)) 92 k (Nat.le_refl _)) rfl (by decide) (D 31 rfl) ?_
  show J Z (37, 1765) _ _ _ (93, _)
  refine j_dup C (D 32 rfl) rfl ?_
  refine j_callIN' C B k_X1_34 (c_X10i _ _ (t := 92) rfl rfl rfl (by decide) (zI_m hI (by decide))) (As := []) rfl rfl rfl rfl (by decide) (D 33 rfl) ?_
  rintro r w' ⟨rfl, rfl⟩
  show J Z (39, 1781) _ _ _ (95, _)
  refine j_aastO (N := 95) (sh := SH) C (kd := 1) (ci := 10) (nf := 9) ⟨by decide, rfl⟩ (ix_n (by decide) (by decide)) ⟨by decide, rfl⟩ rfl rfl rfl (D 34 rfl) ?_
  refine j_iinc (v := nI 10) C (D 35 rfl) rfl rfl (by decide) ?_
  refine j_goto C 50 (D 36 rfl) (by decide) ?_
  refine j_iload_n C (D 25 rfl) rfl ?_
  refine j_bipush (v := nI 10) C (D 26 rfl) (by decide) ?_
  refine j_icmp_ge C 75 (D 27 rfl) (by decide) (fun _ => ?_) (fun h => absurd (by decide) h)
  exact j_vret C P rfl (D 37 rfl) (by decide) ⟨rfl, rfl⟩
def r_hist (R : Nat → Nat → Option Nat) : Nat → Nat → Option Nat := (up2 (up2 (up2 (up2 R 50 0 (some 51)) 50 1 (some 52)) 50 2 (some 53)) 50 3 (some 54))
theorem z_r_hist {R : Nat → Nat → Option Nat} (hR : zR' R 51) : zR' (r_hist R) 55 := (zR_up (zR_up (zR_up (zR_up (zR_m hR (by decide)) (by decide)) (by decide)) (by decide)) (by decide))
set_option maxRecDepth 20000 in
set_option maxHeartbeats 4000000 in
theorem c_X2i (l : Launch) (G : GT) {I : Nat → Nat → Int32} {L : Nat → Nat → Int64} {R : Nat → Nat → Option Nat} (hI : zI I 51) (hL : zL L 51) (hR : zR' R 51) : Mt l G mX2_init 1 4 40 [.ref (ra G 50)] (51, SH, I, L, R) (fun r w' => r = none ∧ w' = (55, SH, I, L, r_hist R)) := by
  refine mt_of (own := RX2) (by decide) rfl rfl (fun Z C P B => ?_)
  have D := @dc_of _ _ dX2_init
  refine j_aload_n C (D 0 rfl) rfl ?_
  refine j_oinit C B (inT_mem (i := 381) (by decide +kernel)) rfl rfl (D 1 rfl) ?_
  refine j_aload_n C (D 2 rfl) rfl ?_
  refine j_bipush (v := nI 10) C (D 3 rfl) (by decide) ?_
  refine j_newint C B (n := 10) rfl (by decide) (by decide) rfl (fun k => (zI_m hI (by decide)) 51 k (Nat.le_refl _)) rfl (by decide) (D 4 rfl) ?_
  show J Z (1, 10) _ _ _ (52, _)
  refine j_putFr (N := 52) (sh := SH) C f_X2_9 rfl rfl ⟨TX2, rfl⟩ ⟨by decide, rfl⟩ rfl rfl (D 5 rfl) ?_
  refine j_aload_n C (D 6 rfl) rfl ?_
  refine j_bipush (v := nI 10) C (D 7 rfl) (by decide) ?_
  refine j_newint C B (n := 10) rfl (by decide) (by decide) rfl (fun k => (zI_m hI (by decide)) 52 k (Nat.le_refl _)) rfl (by decide) (D 8 rfl) ?_
  show J Z (2, 20) _ _ _ (53, _)
  refine j_putFr (N := 53) (sh := SH) C f_X2_15 rfl rfl ⟨TX2, rfl⟩ ⟨by decide, rfl⟩ rfl rfl (D 9 rfl) ?_
  refine j_aload_n C (D 10 rfl) rfl ?_
  refine j_bipush (v := nI 10) C (D 11 rfl) (by decide) ?_
  refine j_newint C B (n := 10) rfl (by decide) (by decide) rfl (fun k => (zI_m hI (by decide)) 53 k (Nat.le_refl _)) rfl (by decide) (D 12 rfl) ?_
  show J Z (3, 30) _ _ _ (54, _)
  refine j_putFr (N := 54) (sh := SH) C f_X2_18 rfl rfl ⟨TX2, rfl⟩ ⟨by decide, rfl⟩ rfl rfl (D 13 rfl) ?_
  refine j_aload_n C (D 14 rfl) rfl ?_
  refine j_bipush (v := nI 10) C (D 15 rfl) (by decide) ?_
  refine j_newint C B (n := 10) rfl (by decide) (by decide) rfl (fun k => (zI_m hI (by decide)) 54 k (Nat.le_refl _)) rfl (by decide) (D 16 rfl) ?_
  show J Z (4, 40) _ _ _ (55, _)
  refine j_putFr (N := 55) (sh := SH) C f_X2_21 rfl rfl ⟨TX2, rfl⟩ ⟨by decide, rfl⟩ rfl rfl (D 17 rfl) ?_
  exact j_vret C P rfl (D 18 rfl) (by decide) ⟨rfl, rfl⟩
def r_stand (R : Nat → Nat → Option Nat) : Nat → Nat → Option Nat := (up2 (up2 (up2 (up2 (up2 (up2 (up2 (up2 (up2 (up2 (up2 (up2 (up2 (up2 (up2 (up2 (up2 (up2 (up2 (up2 (up2 (up2 (up2 (up2 (up2 (up2 R 98 0 (some 99)) 98 4 (some 100)) 101 0 (some 102)) 101 1 (some 103)) 99 0 (some 101)) 104 0 (some 105)) 104 1 (some 106)) 99 1 (some 104)) 107 0 (some 108)) 107 1 (some 109)) 99 2 (some 107)) 110 0 (some 111)) 110 1 (some 112)) 99 3 (some 110)) 113 0 (some 114)) 113 1 (some 115)) 99 4 (some 113)) 116 0 (some 117)) 116 1 (some 118)) 99 5 (some 116)) 119 0 (some 120)) 119 1 (some 121)) 99 6 (some 119)) 122 0 (some 123)) 122 1 (some 124)) 99 7 (some 122))
theorem z_r_stand {R : Nat → Nat → Option Nat} (hR : zR' R 99) : zR' (r_stand R) 125 := (zR_up (zR_up (zR_up (zR_up (zR_up (zR_up (zR_up (zR_up (zR_up (zR_up (zR_up (zR_up (zR_up (zR_up (zR_up (zR_up (zR_up (zR_up (zR_up (zR_up (zR_up (zR_up (zR_up (zR_up (zR_up (zR_up (zR_m hR (by decide)) (by decide)) (by decide)) (by decide)) (by decide)) (by decide)) (by decide)) (by decide)) (by decide)) (by decide)) (by decide)) (by decide)) (by decide)) (by decide)) (by decide)) (by decide)) (by decide)) (by decide)) (by decide)) (by decide)) (by decide)) (by decide)) (by decide)) (by decide)) (by decide)) (by decide)) (by decide))
set_option maxRecDepth 20000 in
set_option maxHeartbeats 4000000 in
theorem c_X8i (l : Launch) (G : GT) {I : Nat → Nat → Int32} {L : Nat → Nat → Int64} {R : Nat → Nat → Option Nat} (hI : zI I 99) (hL : zL L 99) (hR : zR' R 99) : Mt l G mX8_init 2 26 320 [.ref (ra G 98)] (99, SH, I, L, R) (fun r w' => r = none ∧ w' = (125, SH, I, L, r_stand R)) := by
  refine mt_of (own := RX8) (by decide) rfl rfl (fun Z C P B => ?_)
  have D := @dc_of _ _ dX8_init
  refine j_aload_n C (D 0 rfl) rfl ?_
  refine j_oinit C B (inT_mem (i := 454) (by decide +kernel)) rfl rfl (D 1 rfl) ?_
  refine j_aload_n C (D 2 rfl) rfl ?_
  refine j_bipush (v := nI 8) C (D 3 rfl) (by decide) ?_
  refine j_anew C B (kd := 2) (n := 8) (c := "TenTrials$Score") rfl C.2.2.2.2.2.2.2.2.1.2.2.2.2.2.2.2.2.2.2.2.1 (inT_mem (i := 455) (by decide +kernel)) rfl (by decide) (by decide) rfl (fun k => (zR_m hR (by decide)) 99 k (Nat.le_refl _)) rfl (by decide) (D 4 rfl) ?_
  show J Z (1, 8) _ _ _ (100, _)
  refine j_putFr (N := 100) (sh := SH) C f_X8_11 rfl rfl ⟨TX8, rfl⟩ ⟨by decide, rfl⟩ rfl rfl (D 5 rfl) ?_
  refine j_aload_n C (D 6 rfl) rfl ?_
  refine j_bipush (v := nI 80) C (D 7 rfl) (by decide) ?_
  refine j_newint C B (n := 80) rfl (by decide) (by decide) rfl (fun k => (zI_m hI (by decide)) 100 k (Nat.le_refl _)) rfl (by decide) (D 8 rfl) ?_
  show J Z (2, 88) _ _ _ (101, _)
  refine j_putFr (N := 101) (sh := SH) C f_X8_17 rfl rfl ⟨TX8, rfl⟩ ⟨by decide, rfl⟩ rfl rfl (D 9 rfl) ?_
  refine j_iconst (v := nI 0) C (D 10 rfl) (by decide) ?_
  refine j_istore_n C (D 11 rfl) rfl ?_
  refine j_iload_n C (D 12 rfl) rfl ?_
  refine j_bipush (v := nI 8) C (D 13 rfl) (by decide) ?_
  refine j_icmp_ge C 48 (D 14 rfl) (by decide) (fun h => absurd h (by decide)) (fun _ => ?_)
  refine j_aload_n C (D 15 rfl) rfl ?_
  refine j_getr (N := 101) (sh := SH) C f_X8_11 ⟨by decide, rfl⟩ rfl rfl (r := 99) rfl (D 16 rfl) ?_
  refine j_iload_n C (D 17 rfl) rfl ?_
  refine j_new C B (ci := 5) (n := 9) (ty := tyX5) rfl us_X5 tyX5_ok (by decide) rfl (inT_mem (i := 402) (by decide +kernel)) (inT_mem (i := 124) (by decide +kernel)) (inT_mem (i := 455) (by decide +kernel)) rfl (fun k => (zI_m hI (by decide)) 101 k (Nat.le_refl _)) (fun k => (zL_m hL (by decide)) 101 k (Nat.le_refl _)) (fun k => (zR_up (zR_up (zR_m hR (by decide)) (by decide)) (by decide)) 101 k (Nat.le_refl _)) rfl (by decide) (D 18 rfl) ?_
  show J Z (3, 97) _ _ _ (102, _)
  refine j_dup C (D 19 rfl) rfl ?_
  refine j_callIN' C B k_X8_21 (c_X5i _ _ (t := 101) rfl rfl rfl (by decide) (zI_m hI (by decide))) (As := []) rfl rfl rfl rfl (by decide) (D 20 rfl) ?_
  rintro r w' ⟨rfl, rfl⟩
  show J Z (5, 117) _ _ _ (104, _)
  refine j_aastO (N := 104) (sh := SH) C (kd := 2) (ci := 5) (nf := 9) ⟨by decide, rfl⟩ (ix_n (by decide) (by decide)) ⟨by decide, rfl⟩ rfl rfl rfl (D 21 rfl) ?_
  refine j_iinc (v := nI 1) C (D 22 rfl) rfl rfl (by decide) ?_
  refine j_goto C 23 (D 23 rfl) (by decide) ?_
  refine j_iload_n C (D 12 rfl) rfl ?_
  refine j_bipush (v := nI 8) C (D 13 rfl) (by decide) ?_
  refine j_icmp_ge C 48 (D 14 rfl) (by decide) (fun h => absurd h (by decide)) (fun _ => ?_)
  refine j_aload_n C (D 15 rfl) rfl ?_
  refine j_getr (N := 104) (sh := SH) C f_X8_11 ⟨by decide, rfl⟩ rfl rfl (r := 99) rfl (D 16 rfl) ?_
  refine j_iload_n C (D 17 rfl) rfl ?_
  refine j_new C B (ci := 5) (n := 9) (ty := tyX5) rfl us_X5 tyX5_ok (by decide) rfl (inT_mem (i := 402) (by decide +kernel)) (inT_mem (i := 124) (by decide +kernel)) (inT_mem (i := 455) (by decide +kernel)) rfl (fun k => (zI_m hI (by decide)) 104 k (Nat.le_refl _)) (fun k => (zL_m hL (by decide)) 104 k (Nat.le_refl _)) (fun k => (zR_up (zR_up (zR_up (zR_up (zR_up (zR_m hR (by decide)) (by decide)) (by decide)) (by decide)) (by decide)) (by decide)) 104 k (Nat.le_refl _)) rfl (by decide) (D 18 rfl) ?_
  show J Z (6, 126) _ _ _ (105, _)
  refine j_dup C (D 19 rfl) rfl ?_
  refine j_callIN' C B k_X8_21 (c_X5i _ _ (t := 104) rfl rfl rfl (by decide) (zI_m hI (by decide))) (As := []) rfl rfl rfl rfl (by decide) (D 20 rfl) ?_
  rintro r w' ⟨rfl, rfl⟩
  show J Z (8, 146) _ _ _ (107, _)
  refine j_aastO (N := 107) (sh := SH) C (kd := 2) (ci := 5) (nf := 9) ⟨by decide, rfl⟩ (ix_n (by decide) (by decide)) ⟨by decide, rfl⟩ rfl rfl rfl (D 21 rfl) ?_
  refine j_iinc (v := nI 2) C (D 22 rfl) rfl rfl (by decide) ?_
  refine j_goto C 23 (D 23 rfl) (by decide) ?_
  refine j_iload_n C (D 12 rfl) rfl ?_
  refine j_bipush (v := nI 8) C (D 13 rfl) (by decide) ?_
  refine j_icmp_ge C 48 (D 14 rfl) (by decide) (fun h => absurd h (by decide)) (fun _ => ?_)
  refine j_aload_n C (D 15 rfl) rfl ?_
  refine j_getr (N := 107) (sh := SH) C f_X8_11 ⟨by decide, rfl⟩ rfl rfl (r := 99) rfl (D 16 rfl) ?_
  refine j_iload_n C (D 17 rfl) rfl ?_
  refine j_new C B (ci := 5) (n := 9) (ty := tyX5) rfl us_X5 tyX5_ok (by decide) rfl (inT_mem (i := 402) (by decide +kernel)) (inT_mem (i := 124) (by decide +kernel)) (inT_mem (i := 455) (by decide +kernel)) rfl (fun k => (zI_m hI (by decide)) 107 k (Nat.le_refl _)) (fun k => (zL_m hL (by decide)) 107 k (Nat.le_refl _)) (fun k => (zR_up (zR_up (zR_up (zR_up (zR_up (zR_up (zR_up (zR_up (zR_m hR (by decide)) (by decide)) (by decide)) (by decide)) (by decide)) (by decide)) (by decide)) (by decide)) (by decide)) 107 k (Nat.le_refl _)) rfl (by decide) (D 18 rfl) ?_
  show J Z (9, 155) _ _ _ (108, _)
  refine j_dup C (D 19 rfl) rfl ?_
  refine j_callIN' C B k_X8_21 (c_X5i _ _ (t := 107) rfl rfl rfl (by decide) (zI_m hI (by decide))) (As := []) rfl rfl rfl rfl (by decide) (D 20 rfl) ?_
  rintro r w' ⟨rfl, rfl⟩
  show J Z (11, 175) _ _ _ (110, _)
  refine j_aastO (N := 110) (sh := SH) C (kd := 2) (ci := 5) (nf := 9) ⟨by decide, rfl⟩ (ix_n (by decide) (by decide)) ⟨by decide, rfl⟩ rfl rfl rfl (D 21 rfl) ?_
  refine j_iinc (v := nI 3) C (D 22 rfl) rfl rfl (by decide) ?_
  refine j_goto C 23 (D 23 rfl) (by decide) ?_
  refine j_iload_n C (D 12 rfl) rfl ?_
  refine j_bipush (v := nI 8) C (D 13 rfl) (by decide) ?_
  refine j_icmp_ge C 48 (D 14 rfl) (by decide) (fun h => absurd h (by decide)) (fun _ => ?_)
  refine j_aload_n C (D 15 rfl) rfl ?_
  refine j_getr (N := 110) (sh := SH) C f_X8_11 ⟨by decide, rfl⟩ rfl rfl (r := 99) rfl (D 16 rfl) ?_
  refine j_iload_n C (D 17 rfl) rfl ?_
  refine j_new C B (ci := 5) (n := 9) (ty := tyX5) rfl us_X5 tyX5_ok (by decide) rfl (inT_mem (i := 402) (by decide +kernel)) (inT_mem (i := 124) (by decide +kernel)) (inT_mem (i := 455) (by decide +kernel)) rfl (fun k => (zI_m hI (by decide)) 110 k (Nat.le_refl _)) (fun k => (zL_m hL (by decide)) 110 k (Nat.le_refl _)) (fun k => (zR_up (zR_up (zR_up (zR_up (zR_up (zR_up (zR_up (zR_up (zR_up (zR_up (zR_up (zR_m hR (by decide)) (by decide)) (by decide)) (by decide)) (by decide)) (by decide)) (by decide)) (by decide)) (by decide)) (by decide)) (by decide)) (by decide)) 110 k (Nat.le_refl _)) rfl (by decide) (D 18 rfl) ?_
  show J Z (12, 184) _ _ _ (111, _)
  refine j_dup C (D 19 rfl) rfl ?_
  refine j_callIN' C B k_X8_21 (c_X5i _ _ (t := 110) rfl rfl rfl (by decide) (zI_m hI (by decide))) (As := []) rfl rfl rfl rfl (by decide) (D 20 rfl) ?_
  rintro r w' ⟨rfl, rfl⟩
  show J Z (14, 204) _ _ _ (113, _)
  refine j_aastO (N := 113) (sh := SH) C (kd := 2) (ci := 5) (nf := 9) ⟨by decide, rfl⟩ (ix_n (by decide) (by decide)) ⟨by decide, rfl⟩ rfl rfl rfl (D 21 rfl) ?_
  refine j_iinc (v := nI 4) C (D 22 rfl) rfl rfl (by decide) ?_
  refine j_goto C 23 (D 23 rfl) (by decide) ?_
  refine j_iload_n C (D 12 rfl) rfl ?_
  refine j_bipush (v := nI 8) C (D 13 rfl) (by decide) ?_
  refine j_icmp_ge C 48 (D 14 rfl) (by decide) (fun h => absurd h (by decide)) (fun _ => ?_)
  refine j_aload_n C (D 15 rfl) rfl ?_
  refine j_getr (N := 113) (sh := SH) C f_X8_11 ⟨by decide, rfl⟩ rfl rfl (r := 99) rfl (D 16 rfl) ?_
  refine j_iload_n C (D 17 rfl) rfl ?_
  refine j_new C B (ci := 5) (n := 9) (ty := tyX5) rfl us_X5 tyX5_ok (by decide) rfl (inT_mem (i := 402) (by decide +kernel)) (inT_mem (i := 124) (by decide +kernel)) (inT_mem (i := 455) (by decide +kernel)) rfl (fun k => (zI_m hI (by decide)) 113 k (Nat.le_refl _)) (fun k => (zL_m hL (by decide)) 113 k (Nat.le_refl _)) (fun k => (zR_up (zR_up (zR_up (zR_up (zR_up (zR_up (zR_up (zR_up (zR_up (zR_up (zR_up (zR_up (zR_up (zR_up (zR_m hR (by decide)) (by decide)) (by decide)) (by decide)) (by decide)) (by decide)) (by decide)) (by decide)) (by decide)) (by decide)) (by decide)) (by decide)) (by decide)) (by decide)) (by decide)) 113 k (Nat.le_refl _)) rfl (by decide) (D 18 rfl) ?_
  show J Z (15, 213) _ _ _ (114, _)
  refine j_dup C (D 19 rfl) rfl ?_
  refine j_callIN' C B k_X8_21 (c_X5i _ _ (t := 113) rfl rfl rfl (by decide) (zI_m hI (by decide))) (As := []) rfl rfl rfl rfl (by decide) (D 20 rfl) ?_
  rintro r w' ⟨rfl, rfl⟩
  show J Z (17, 233) _ _ _ (116, _)
  refine j_aastO (N := 116) (sh := SH) C (kd := 2) (ci := 5) (nf := 9) ⟨by decide, rfl⟩ (ix_n (by decide) (by decide)) ⟨by decide, rfl⟩ rfl rfl rfl (D 21 rfl) ?_
  refine j_iinc (v := nI 5) C (D 22 rfl) rfl rfl (by decide) ?_
  refine j_goto C 23 (D 23 rfl) (by decide) ?_
  refine j_iload_n C (D 12 rfl) rfl ?_
  refine j_bipush (v := nI 8) C (D 13 rfl) (by decide) ?_
  refine j_icmp_ge C 48 (D 14 rfl) (by decide) (fun h => absurd h (by decide)) (fun _ => ?_)
  refine j_aload_n C (D 15 rfl) rfl ?_
  refine j_getr (N := 116) (sh := SH) C f_X8_11 ⟨by decide, rfl⟩ rfl rfl (r := 99) rfl (D 16 rfl) ?_
  refine j_iload_n C (D 17 rfl) rfl ?_
  refine j_new C B (ci := 5) (n := 9) (ty := tyX5) rfl us_X5 tyX5_ok (by decide) rfl (inT_mem (i := 402) (by decide +kernel)) (inT_mem (i := 124) (by decide +kernel)) (inT_mem (i := 455) (by decide +kernel)) rfl (fun k => (zI_m hI (by decide)) 116 k (Nat.le_refl _)) (fun k => (zL_m hL (by decide)) 116 k (Nat.le_refl _)) (fun k => (zR_up (zR_up (zR_up (zR_up (zR_up (zR_up (zR_up (zR_up (zR_up (zR_up (zR_up (zR_up (zR_up (zR_up (zR_up (zR_up (zR_up (zR_m hR (by decide)) (by decide)) (by decide)) (by decide)) (by decide)) (by decide)) (by decide)) (by decide)) (by decide)) (by decide)) (by decide)) (by decide)) (by decide)) (by decide)) (by decide)) (by decide)) (by decide)) (by decide)) 116 k (Nat.le_refl _)) rfl (by decide) (D 18 rfl) ?_
  show J Z (18, 242) _ _ _ (117, _)
  refine j_dup C (D 19 rfl) rfl ?_
  refine j_callIN' C B k_X8_21 (c_X5i _ _ (t := 116) rfl rfl rfl (by decide) (zI_m hI (by decide))) (As := []) rfl rfl rfl rfl (by decide) (D 20 rfl) ?_
  rintro r w' ⟨rfl, rfl⟩
  show J Z (20, 262) _ _ _ (119, _)
  refine j_aastO (N := 119) (sh := SH) C (kd := 2) (ci := 5) (nf := 9) ⟨by decide, rfl⟩ (ix_n (by decide) (by decide)) ⟨by decide, rfl⟩ rfl rfl rfl (D 21 rfl) ?_
  refine j_iinc (v := nI 6) C (D 22 rfl) rfl rfl (by decide) ?_
  refine j_goto C 23 (D 23 rfl) (by decide) ?_
  refine j_iload_n C (D 12 rfl) rfl ?_
  refine j_bipush (v := nI 8) C (D 13 rfl) (by decide) ?_
  refine j_icmp_ge C 48 (D 14 rfl) (by decide) (fun h => absurd h (by decide)) (fun _ => ?_)
  refine j_aload_n C (D 15 rfl) rfl ?_
  refine j_getr (N := 119) (sh := SH) C f_X8_11 ⟨by decide, rfl⟩ rfl rfl (r := 99) rfl (D 16 rfl) ?_
  refine j_iload_n C (D 17 rfl) rfl ?_
  refine j_new C B (ci := 5) (n := 9) (ty := tyX5) rfl us_X5 tyX5_ok (by decide) rfl (inT_mem (i := 402) (by decide +kernel)) (inT_mem (i := 124) (by decide +kernel)) (inT_mem (i := 455) (by decide +kernel)) rfl (fun k => (zI_m hI (by decide)) 119 k (Nat.le_refl _)) (fun k => (zL_m hL (by decide)) 119 k (Nat.le_refl _)) (fun k => (zR_up (zR_up (zR_up (zR_up (zR_up (zR_up (zR_up (zR_up (zR_up (zR_up (zR_up (zR_up (zR_up (zR_up (zR_up (zR_up (zR_up (zR_up (zR_up (zR_up (zR_m hR (by decide)) (by decide)) (by decide)) (by decide)) (by decide)) (by decide)) (by decide)) (by decide)) (by decide)) (by decide)) (by decide)) (by decide)) (by decide)) (by decide)) (by decide)) (by decide)) (by decide)) (by decide)) (by decide)) (by decide)) (by decide)) 119 k (Nat.le_refl _)) rfl (by decide) (D 18 rfl) ?_
  show J Z (21, 271) _ _ _ (120, _)
  refine j_dup C (D 19 rfl) rfl ?_
  refine j_callIN' C B k_X8_21 (c_X5i _ _ (t := 119) rfl rfl rfl (by decide) (zI_m hI (by decide))) (As := []) rfl rfl rfl rfl (by decide) (D 20 rfl) ?_
  rintro r w' ⟨rfl, rfl⟩
  show J Z (23, 291) _ _ _ (122, _)
  refine j_aastO (N := 122) (sh := SH) C (kd := 2) (ci := 5) (nf := 9) ⟨by decide, rfl⟩ (ix_n (by decide) (by decide)) ⟨by decide, rfl⟩ rfl rfl rfl (D 21 rfl) ?_
  refine j_iinc (v := nI 7) C (D 22 rfl) rfl rfl (by decide) ?_
  refine j_goto C 23 (D 23 rfl) (by decide) ?_
  refine j_iload_n C (D 12 rfl) rfl ?_
  refine j_bipush (v := nI 8) C (D 13 rfl) (by decide) ?_
  refine j_icmp_ge C 48 (D 14 rfl) (by decide) (fun h => absurd h (by decide)) (fun _ => ?_)
  refine j_aload_n C (D 15 rfl) rfl ?_
  refine j_getr (N := 122) (sh := SH) C f_X8_11 ⟨by decide, rfl⟩ rfl rfl (r := 99) rfl (D 16 rfl) ?_
  refine j_iload_n C (D 17 rfl) rfl ?_
  refine j_new C B (ci := 5) (n := 9) (ty := tyX5) rfl us_X5 tyX5_ok (by decide) rfl (inT_mem (i := 402) (by decide +kernel)) (inT_mem (i := 124) (by decide +kernel)) (inT_mem (i := 455) (by decide +kernel)) rfl (fun k => (zI_m hI (by decide)) 122 k (Nat.le_refl _)) (fun k => (zL_m hL (by decide)) 122 k (Nat.le_refl _)) (fun k => (zR_up (zR_up (zR_up (zR_up (zR_up (zR_up (zR_up (zR_up (zR_up (zR_up (zR_up (zR_up (zR_up (zR_up (zR_up (zR_up (zR_up (zR_up (zR_up (zR_up (zR_up (zR_up (zR_up (zR_m hR (by decide)) (by decide)) (by decide)) (by decide)) (by decide)) (by decide)) (by decide)) (by decide)) (by decide)) (by decide)) (by decide)) (by decide)) (by decide)) (by decide)) (by decide)) (by decide)) (by decide)) (by decide)) (by decide)) (by decide)) (by decide)) (by decide)) (by decide)) (by decide)) 122 k (Nat.le_refl _)) rfl (by decide) (D 18 rfl) ?_
  show J Z (24, 300) _ _ _ (123, _)
  refine j_dup C (D 19 rfl) rfl ?_
  refine j_callIN' C B k_X8_21 (c_X5i _ _ (t := 122) rfl rfl rfl (by decide) (zI_m hI (by decide))) (As := []) rfl rfl rfl rfl (by decide) (D 20 rfl) ?_
  rintro r w' ⟨rfl, rfl⟩
  show J Z (26, 320) _ _ _ (125, _)
  refine j_aastO (N := 125) (sh := SH) C (kd := 2) (ci := 5) (nf := 9) ⟨by decide, rfl⟩ (ix_n (by decide) (by decide)) ⟨by decide, rfl⟩ rfl rfl rfl (D 21 rfl) ?_
  refine j_iinc (v := nI 8) C (D 22 rfl) rfl rfl (by decide) ?_
  refine j_goto C 23 (D 23 rfl) (by decide) ?_
  refine j_iload_n C (D 12 rfl) rfl ?_
  refine j_bipush (v := nI 8) C (D 13 rfl) (by decide) ?_
  refine j_icmp_ge C 48 (D 14 rfl) (by decide) (fun _ => ?_) (fun h => absurd (by decide) h)
  exact j_vret C P rfl (D 24 rfl) (by decide) ⟨rfl, rfl⟩
def r_read (R : Nat → Nat → Option Nat) : Nat → Nat → Option Nat := (up2 (r_ct10 (up2 (up2 (vR (up2 (up2 (up2 R 5 0 (some 6)) 5 1 (some 7)) 5 2 (some 8)) 9) 5 4 (some 9)) 4 2 (some 5))) 4 3 (some 10))
theorem z_r_read {R : Nat → Nat → Option Nat} (hR : zR' R 5) : zR' (r_read R) 50 := (zR_up (z_r_ct10 (zR_up (zR_up (zR_v (zR_up (zR_up (zR_up (zR_m hR (by decide)) (by decide)) (by decide)) (by decide)) (by decide)) (by decide)) (by decide))) (by decide))
set_option maxRecDepth 20000 in
set_option maxHeartbeats 4000000 in
theorem c_X4i (l : Launch) (G : GT) {I : Nat → Nat → Int32} {L : Nat → Nat → Int64} {R : Nat → Nat → Option Nat} (hI : zI I 5) (hL : zL L 5) (hR : zR' R 5) : Mt l G mX4_init 3 45 5439 [.ref (ra G 4)] (5, SH, I, L, R) (fun r w' => r = none ∧ w' = (50, SH, (up2 I 4 1 (-1)), L, r_read R)) := by
  refine mt_of (own := RX4) (by decide) rfl rfl (fun Z C P B => ?_)
  have D := @dc_of _ _ dX4_init
  refine j_aload_n C (D 0 rfl) rfl ?_
  refine j_oinit C B (inT_mem (i := 163) (by decide +kernel)) rfl rfl (D 1 rfl) ?_
  refine j_aload_n C (D 2 rfl) rfl ?_
  refine j_iconst (v := (-1)) C (D 3 rfl) (by decide) ?_
  refine j_puti (N := 5) (sh := SH) C f_X4_9 ⟨by decide, rfl⟩ rfl rfl (D 4 rfl) ?_
  refine j_aload_n C (D 5 rfl) rfl ?_
  refine j_new C B (ci := 9) (n := 5) (ty := tyX9) rfl us_X9 tyX9_ok (by decide) rfl (inT_mem (i := 165) (by decide +kernel)) (inT_mem (i := 117) (by decide +kernel)) (inT_mem (i := 164) (by decide +kernel)) rfl (fun k => (zI_up (zI_m hI (by decide)) (by decide)) 5 k (Nat.le_refl _)) (fun k => (zL_m hL (by decide)) 5 k (Nat.le_refl _)) (fun k => (zR_m hR (by decide)) 5 k (Nat.le_refl _)) rfl (by decide) (D 6 rfl) ?_
  show J Z (1, 5) _ _ _ (6, _)
  refine j_dup C (D 7 rfl) rfl ?_
  refine j_callIN' C B k_X4_17 (c_X9i _ _ (zI_up (zI_m hI (by decide)) (by decide)) (zR_m hR (by decide))) (As := []) rfl rfl rfl rfl (by decide) (D 8 rfl) ?_
  rintro r w' ⟨rfl, rfl⟩
  show J Z (5, 3650) _ _ _ (10, _)
  refine j_putFr (N := 10) (sh := SH) C f_X4_18 rfl rfl ⟨TX4, rfl⟩ ⟨by decide, rfl⟩ rfl rfl (D 9 rfl) ?_
  refine j_aload_n C (D 10 rfl) rfl ?_
  refine j_new C B (ci := 1) (n := 8) (ty := tyX1) rfl us_X1 tyX1_ok (by decide) rfl (inT_mem (i := 206) (by decide +kernel)) (inT_mem (i := 120) (by decide +kernel)) (inT_mem (i := 205) (by decide +kernel)) rfl (fun k => (zI_up (zI_m hI (by decide)) (by decide)) 10 k (Nat.le_refl _)) (fun k => (zL_m hL (by decide)) 10 k (Nat.le_refl _)) (fun k => (zR_up (zR_up (zR_v (zR_up (zR_up (zR_up (zR_m hR (by decide)) (by decide)) (by decide)) (by decide)) (by decide)) (by decide)) (by decide)) 10 k (Nat.le_refl _)) rfl (by decide) (D 11 rfl) ?_
  show J Z (6, 3658) _ _ _ (11, _)
  refine j_dup C (D 12 rfl) rfl ?_
  refine j_callI' C B k_X4_24 (c_X1i10 _ _ (zI_up (zI_m hI (by decide)) (by decide)) (zL_m hL (by decide)) (zR_up (zR_up (zR_v (zR_up (zR_up (zR_up (zR_m hR (by decide)) (by decide)) (by decide)) (by decide)) (by decide)) (by decide)) (by decide))) (As := []) rfl rfl rfl rfl (by decide) (D 13 rfl) ?_
  rintro r w' ⟨rfl, rfl⟩
  show J Z (45, 5439) _ _ _ (50, _)
  refine j_putr (N := 50) (sh := SH) C f_X4_25 ⟨by decide, rfl⟩ rfl rfl (D 14 rfl) ?_
  exact j_vret C P rfl (D 15 rfl) (by decide) ⟨rfl, rfl⟩
end
section
/-! the makers of the two -/
def r_x (R : Nat → Nat → Option Nat) : Nat → Nat → Option Nat := (up2 (up2 (up2 (mR (up2 (mR (up2 (up2 (mR (up2 (mR (up2 (r_stand (up2 (up2 (up2 (up2 (r_ct55 (up2 (r_hist (up2 (r_read (up2 (up2 (up2 R 0 0 (some 1)) 2 0 (some 3)) 0 2 (some 2))) 0 3 (some 4))) 0 4 (some 50))) 0 5 (some 55)) 95 0 (some 96)) 95 1 (some 97)) 0 7 (some 95))) 0 8 (some 98)) 126 10) 125 0 (some 126)) 137 10) 125 1 (some 137)) 0 9 (some 125)) 149 10) 148 0 (some 149)) 160 10) 148 1 (some 160)) 0 10 (some 148)) 0 11 (some 171))
theorem z_r_x {R : Nat → Nat → Option Nat} (hR : zR' R 1) : zR' (r_x R) 172 := (zR_up (zR_up (zR_up (zR_mm (zR_up (zR_mm (zR_up (zR_up (zR_mm (zR_up (zR_mm (zR_up (zR_m (z_r_stand (zR_up (zR_up (zR_up (zR_up (zR_m (z_r_ct55 (zR_up (zR_m (z_r_hist (zR_up (zR_m (z_r_read (zR_up (zR_up (zR_up (zR_m hR (by decide)) (by decide)) (by decide)) (by decide))) (by decide)) (by decide))) (by decide)) (by decide))) (by decide)) (by decide)) (by decide)) (by decide)) (by decide))) (by decide)) (by decide)) (by decide)) (by decide)) (by decide)) (by decide)) (by decide)) (by decide)) (by decide)) (by decide)) (by decide)) (by decide)) (by decide))
set_option maxRecDepth 20000 in
set_option maxHeartbeats 4000000 in
theorem c_X11i (l : Launch) (G : GT) {I : Nat → Nat → Int32} {L : Nat → Nat → Int64} {R : Nat → Nat → Option Nat} (hI : zI I 1) (hL : zL L 1) (hR : zR' R 1) : Mt l G mX11_init 4 171 11398 [.ref (ra G 0)] (1, SH, I, L, R) (fun r w' => r = none ∧ w' = (172, SH, (up2 I 4 1 (-1)), L, r_x R)) := by
  refine mt_of (own := RX11) (by decide) rfl rfl (fun Z C P B => ?_)
  have D := @dc_of _ _ dX11_init
  refine j_aload_n C (D 0 rfl) rfl ?_
  refine j_oinit C B (inT_mem (i := 139) (by decide +kernel)) rfl rfl (D 1 rfl) ?_
  refine j_aload_n C (D 2 rfl) rfl ?_
  refine j_sipush (v := nI 1200) C (D 3 rfl) (by decide) ?_
  refine j_newbyte C B (n := 1200) rfl (by decide) (by decide) rfl (fun k => (zI_m hI (by decide)) 1 k (Nat.le_refl _)) rfl (by decide) (D 4 rfl) ?_
  show J Z (1, 1200) _ _ _ (2, _)
  refine j_putFr (N := 2) (sh := SH) C f_X11_9 rfl rfl ⟨TX11, rfl⟩ ⟨by decide, rfl⟩ rfl rfl (D 5 rfl) ?_
  refine j_aload_n C (D 6 rfl) rfl ?_
  refine j_new C B (ci := 3) (n := 2) (ty := tyX3) rfl us_X3 tyX3_ok (by decide) rfl (inT_mem (i := 143) (by decide +kernel)) (inT_mem (i := 115) (by decide +kernel)) (inT_mem (i := 142) (by decide +kernel)) rfl (fun k => (zI_m hI (by decide)) 2 k (Nat.le_refl _)) (fun k => (zL_m hL (by decide)) 2 k (Nat.le_refl _)) (fun k => (zR_up (zR_m hR (by decide)) (by decide)) 2 k (Nat.le_refl _)) rfl (by decide) (D 7 rfl) ?_
  show J Z (2, 1202) _ _ _ (3, _)
  refine j_dup C (D 8 rfl) rfl ?_
  refine j_callIN' C B k_X11_15 (c_X3i _ _ (fun k => (zI_m hI (by decide)) 3 k (Nat.le_refl _))) (As := []) rfl rfl rfl rfl (by decide) (D 9 rfl) ?_
  rintro r w' ⟨rfl, rfl⟩
  show J Z (3, 1266) _ _ _ (4, _)
  refine j_putFr (N := 4) (sh := SH) C f_X11_16 rfl rfl ⟨TX11, rfl⟩ ⟨by decide, rfl⟩ rfl rfl (D 10 rfl) ?_
  refine j_aload_n C (D 11 rfl) rfl ?_
  refine j_new C B (ci := 4) (n := 8) (ty := tyX4) rfl us_X4 tyX4_ok (by decide) rfl (inT_mem (i := 159) (by decide +kernel)) (inT_mem (i := 116) (by decide +kernel)) (inT_mem (i := 158) (by decide +kernel)) rfl (fun k => (zI_m hI (by decide)) 4 k (Nat.le_refl _)) (fun k => (zL_m hL (by decide)) 4 k (Nat.le_refl _)) (fun k => (zR_up (zR_up (zR_up (zR_m hR (by decide)) (by decide)) (by decide)) (by decide)) 4 k (Nat.le_refl _)) rfl (by decide) (D 12 rfl) ?_
  show J Z (4, 1274) _ _ _ (5, _)
  refine j_dup C (D 13 rfl) rfl ?_
  refine j_callIN' C B k_X11_22 (c_X4i _ _ (zI_m hI (by decide)) (zL_m hL (by decide)) (zR_up (zR_up (zR_up (zR_m hR (by decide)) (by decide)) (by decide)) (by decide))) (As := []) rfl rfl rfl rfl (by decide) (D 14 rfl) ?_
  rintro r w' ⟨rfl, rfl⟩
  show J Z (49, 6713) _ _ _ (50, _)
  refine j_putFr (N := 50) (sh := SH) C f_X11_23 rfl rfl ⟨TX11, rfl⟩ ⟨by decide, rfl⟩ rfl rfl (D 15 rfl) ?_
  refine j_aload_n C (D 16 rfl) rfl ?_
  refine j_new C B (ci := 2) (n := 5) (ty := tyX2) rfl us_X2 tyX2_ok (by decide) rfl (inT_mem (i := 377) (by decide +kernel)) (inT_mem (i := 123) (by decide +kernel)) (inT_mem (i := 376) (by decide +kernel)) rfl (fun k => (zI_up (zI_m hI (by decide)) (by decide)) 50 k (Nat.le_refl _)) (fun k => (zL_m hL (by decide)) 50 k (Nat.le_refl _)) (fun k => (zR_up (zR_m (z_r_read (zR_up (zR_up (zR_up (zR_m hR (by decide)) (by decide)) (by decide)) (by decide))) (by decide)) (by decide)) 50 k (Nat.le_refl _)) rfl (by decide) (D 17 rfl) ?_
  show J Z (50, 6718) _ _ _ (51, _)
  refine j_dup C (D 18 rfl) rfl ?_
  refine j_callIN' C B k_X11_29 (c_X2i _ _ (zI_up (zI_m hI (by decide)) (by decide)) (zL_m hL (by decide)) (zR_up (zR_m (z_r_read (zR_up (zR_up (zR_up (zR_m hR (by decide)) (by decide)) (by decide)) (by decide))) (by decide)) (by decide))) (As := []) rfl rfl rfl rfl (by decide) (D 19 rfl) ?_
  rintro r w' ⟨rfl, rfl⟩
  show J Z (54, 6758) _ _ _ (55, _)
  refine j_putFr (N := 55) (sh := SH) C f_X11_30 rfl rfl ⟨TX11, rfl⟩ ⟨by decide, rfl⟩ rfl rfl (D 20 rfl) ?_
  refine j_aload_n C (D 21 rfl) rfl ?_
  refine j_new C B (ci := 1) (n := 8) (ty := tyX1) rfl us_X1 tyX1_ok (by decide) rfl (inT_mem (i := 206) (by decide +kernel)) (inT_mem (i := 120) (by decide +kernel)) (inT_mem (i := 399) (by decide +kernel)) rfl (fun k => (zI_up (zI_m hI (by decide)) (by decide)) 55 k (Nat.le_refl _)) (fun k => (zL_m hL (by decide)) 55 k (Nat.le_refl _)) (fun k => (zR_up (zR_m (z_r_hist (zR_up (zR_m (z_r_read (zR_up (zR_up (zR_up (zR_m hR (by decide)) (by decide)) (by decide)) (by decide))) (by decide)) (by decide))) (by decide)) (by decide)) 55 k (Nat.le_refl _)) rfl (by decide) (D 22 rfl) ?_
  show J Z (55, 6766) _ _ _ (56, _)
  refine j_dup C (D 23 rfl) rfl ?_
  refine j_callI' C B k_X11_36 (c_X1i55 _ _ (zI_up (zI_m hI (by decide)) (by decide)) (zL_m hL (by decide)) (zR_up (zR_m (z_r_hist (zR_up (zR_m (z_r_read (zR_up (zR_up (zR_up (zR_m hR (by decide)) (by decide)) (by decide)) (by decide))) (by decide)) (by decide))) (by decide)) (by decide))) (As := []) rfl rfl rfl rfl (by decide) (D 24 rfl) ?_
  rintro r w' ⟨rfl, rfl⟩
  show J Z (94, 8547) _ _ _ (95, _)
  refine j_putr (N := 95) (sh := SH) C f_X11_37 ⟨by decide, rfl⟩ rfl rfl (D 25 rfl) ?_
  refine j_aload_n C (D 26 rfl) rfl ?_
  refine j_new C B (ci := 5) (n := 9) (ty := tyX5) rfl us_X5 tyX5_ok (by decide) rfl (inT_mem (i := 402) (by decide +kernel)) (inT_mem (i := 124) (by decide +kernel)) (inT_mem (i := 401) (by decide +kernel)) rfl (fun k => (zI_up (zI_m hI (by decide)) (by decide)) 95 k (Nat.le_refl _)) (fun k => (zL_m hL (by decide)) 95 k (Nat.le_refl _)) (fun k => (zR_up (zR_m (z_r_ct55 (zR_up (zR_m (z_r_hist (zR_up (zR_m (z_r_read (zR_up (zR_up (zR_up (zR_m hR (by decide)) (by decide)) (by decide)) (by decide))) (by decide)) (by decide))) (by decide)) (by decide))) (by decide)) (by decide)) 95 k (Nat.le_refl _)) rfl (by decide) (D 27 rfl) ?_
  show J Z (95, 8556) _ _ _ (96, _)
  refine j_dup C (D 28 rfl) rfl ?_
  refine j_callIN' C B k_X11_43 (c_X5i _ _ (t := 95) rfl rfl rfl (by decide) (zI_up (zI_m hI (by decide)) (by decide))) (As := []) rfl rfl rfl rfl (by decide) (D 29 rfl) ?_
  rintro r w' ⟨rfl, rfl⟩
  show J Z (97, 8576) _ _ _ (98, _)
  refine j_putFr (N := 98) (sh := SH) C f_X11_44 rfl rfl ⟨TX11, rfl⟩ ⟨by decide, rfl⟩ rfl rfl (D 30 rfl) ?_
  refine j_aload_n C (D 31 rfl) rfl ?_
  refine j_new C B (ci := 8) (n := 6) (ty := tyX8) rfl us_X8 tyX8_ok (by decide) rfl (inT_mem (i := 450) (by decide +kernel)) (inT_mem (i := 125) (by decide +kernel)) (inT_mem (i := 449) (by decide +kernel)) rfl (fun k => (zI_up (zI_m hI (by decide)) (by decide)) 98 k (Nat.le_refl _)) (fun k => (zL_m hL (by decide)) 98 k (Nat.le_refl _)) (fun k => (zR_up (zR_up (zR_up (zR_up (zR_m (z_r_ct55 (zR_up (zR_m (z_r_hist (zR_up (zR_m (z_r_read (zR_up (zR_up (zR_up (zR_m hR (by decide)) (by decide)) (by decide)) (by decide))) (by decide)) (by decide))) (by decide)) (by decide))) (by decide)) (by decide)) (by decide)) (by decide)) (by decide)) 98 k (Nat.le_refl _)) rfl (by decide) (D 32 rfl) ?_
  show J Z (98, 8582) _ _ _ (99, _)
  refine j_dup C (D 33 rfl) rfl ?_
  refine j_callI' C B k_X11_50 (c_X8i _ _ (zI_up (zI_m hI (by decide)) (by decide)) (zL_m hL (by decide)) (zR_up (zR_up (zR_up (zR_up (zR_m (z_r_ct55 (zR_up (zR_m (z_r_hist (zR_up (zR_m (z_r_read (zR_up (zR_up (zR_up (zR_m hR (by decide)) (by decide)) (by decide)) (by decide))) (by decide)) (by decide))) (by decide)) (by decide))) (by decide)) (by decide)) (by decide)) (by decide)) (by decide))) (As := []) rfl rfl rfl rfl (by decide) (D 34 rfl) ?_
  rintro r w' ⟨rfl, rfl⟩
  show J Z (124, 8902) _ _ _ (125, _)
  refine j_putFr (N := 125) (sh := SH) C f_X11_51 rfl rfl ⟨TX11, rfl⟩ ⟨by decide, rfl⟩ rfl rfl (D 35 rfl) ?_
  refine j_aload_n C (D 36 rfl) rfl ?_
  refine j_new C B (ci := 6) (n := 3) (ty := tyX6) rfl us_X6 tyX6_ok (by decide) rfl (inT_mem (i := 479) (by decide +kernel)) (inT_mem (i := 126) (by decide +kernel)) (inT_mem (i := 478) (by decide +kernel)) rfl (fun k => (zI_up (zI_m hI (by decide)) (by decide)) 125 k (Nat.le_refl _)) (fun k => (zL_m hL (by decide)) 125 k (Nat.le_refl _)) (fun k => (zR_up (zR_m (z_r_stand (zR_up (zR_up (zR_up (zR_up (zR_m (z_r_ct55 (zR_up (zR_m (z_r_hist (zR_up (zR_m (z_r_read (zR_up (zR_up (zR_up (zR_m hR (by decide)) (by decide)) (by decide)) (by decide))) (by decide)) (by decide))) (by decide)) (by decide))) (by decide)) (by decide)) (by decide)) (by decide)) (by decide))) (by decide)) (by decide)) 125 k (Nat.le_refl _)) rfl (by decide) (D 37 rfl) ?_
  show J Z (125, 8905) _ _ _ (126, _)
  refine j_dup C (D 38 rfl) rfl ?_
  refine j_callIN' C B k_X11_57 (c_X6i _ _ (a := 125) (by decide) (zI_up (zI_m hI (by decide)) (by decide))) (As := []) rfl rfl rfl rfl (by decide) (D 39 rfl) ?_
  rintro r w' ⟨rfl, rfl⟩
  show J Z (147, 10145) _ _ _ (148, _)
  refine j_putFr (N := 148) (sh := SH) C f_X11_58 rfl rfl ⟨TX11, rfl⟩ ⟨by decide, rfl⟩ rfl rfl (D 40 rfl) ?_
  refine j_aload_n C (D 41 rfl) rfl ?_
  refine j_new C B (ci := 6) (n := 3) (ty := tyX6) rfl us_X6 tyX6_ok (by decide) rfl (inT_mem (i := 479) (by decide +kernel)) (inT_mem (i := 126) (by decide +kernel)) (inT_mem (i := 478) (by decide +kernel)) rfl (fun k => (zI_up (zI_m hI (by decide)) (by decide)) 148 k (Nat.le_refl _)) (fun k => (zL_m hL (by decide)) 148 k (Nat.le_refl _)) (fun k => (zR_up (zR_up (zR_mm (zR_up (zR_mm (zR_up (zR_m (z_r_stand (zR_up (zR_up (zR_up (zR_up (zR_m (z_r_ct55 (zR_up (zR_m (z_r_hist (zR_up (zR_m (z_r_read (zR_up (zR_up (zR_up (zR_m hR (by decide)) (by decide)) (by decide)) (by decide))) (by decide)) (by decide))) (by decide)) (by decide))) (by decide)) (by decide)) (by decide)) (by decide)) (by decide))) (by decide)) (by decide)) (by decide)) (by decide)) (by decide)) (by decide)) (by decide)) 148 k (Nat.le_refl _)) rfl (by decide) (D 42 rfl) ?_
  show J Z (148, 10148) _ _ _ (149, _)
  refine j_dup C (D 43 rfl) rfl ?_
  refine j_callIN' C B k_X11_57 (c_X6i _ _ (a := 148) (by decide) (zI_up (zI_m hI (by decide)) (by decide))) (As := []) rfl rfl rfl rfl (by decide) (D 44 rfl) ?_
  rintro r w' ⟨rfl, rfl⟩
  show J Z (170, 11388) _ _ _ (171, _)
  refine j_putFr (N := 171) (sh := SH) C f_X11_62 rfl rfl ⟨TX11, rfl⟩ ⟨by decide, rfl⟩ rfl rfl (D 45 rfl) ?_
  refine j_aload_n C (D 46 rfl) rfl ?_
  refine j_bipush (v := nI 10) C (D 47 rfl) (by decide) ?_
  refine j_newint C B (n := 10) rfl (by decide) (by decide) rfl (fun k => (zI_up (zI_m hI (by decide)) (by decide)) 171 k (Nat.le_refl _)) rfl (by decide) (D 48 rfl) ?_
  show J Z (171, 11398) _ _ _ (172, _)
  refine j_putFr (N := 172) (sh := SH) C f_X11_65 rfl rfl ⟨TX11, rfl⟩ ⟨by decide, rfl⟩ rfl rfl (D 49 rfl) ?_
  exact j_vret C P rfl (D 50 rfl) (by decide) ⟨rfl, rfl⟩
def r_m (R : Nat → Nat → Option Nat) : Nat → Nat → Option Nat := (up2 (up2 (up2 (up2 (up2 (up2 (up2 (up2 (up2 (up2 (up2 (up2 (up2 (up2 (up2 (up2 (up2 (up2 (up2 (up2 (up2 (up2 (up2 (up2 R 172 6 (some 173)) 172 7 (some 174)) 172 8 (some 175)) 172 9 (some 176)) 172 10 (some 177)) 172 11 (some 178)) 172 12 (some 179)) 172 19 (some 180)) 172 20 (some 181)) 172 21 (some 182)) 172 22 (some 183)) 172 23 (some 184)) 172 24 (some 185)) 172 25 (some 186)) 172 26 (some 187)) 172 36 (some 188)) 172 37 (some 189)) 172 38 (some 190)) 172 39 (some 191)) 172 40 (some 192)) 172 41 (some 193)) 172 42 (some 194)) 172 45 (some 195)) 172 46 (some 196))
theorem z_r_m {R : Nat → Nat → Option Nat} (hR : zR' R 173) : zR' (r_m R) 197 := (zR_up (zR_up (zR_up (zR_up (zR_up (zR_up (zR_up (zR_up (zR_up (zR_up (zR_up (zR_up (zR_up (zR_up (zR_up (zR_up (zR_up (zR_up (zR_up (zR_up (zR_up (zR_up (zR_up (zR_up (zR_m hR (by decide)) (by decide)) (by decide)) (by decide)) (by decide)) (by decide)) (by decide)) (by decide)) (by decide)) (by decide)) (by decide)) (by decide)) (by decide)) (by decide)) (by decide)) (by decide)) (by decide)) (by decide)) (by decide)) (by decide)) (by decide)) (by decide)) (by decide)) (by decide)) (by decide))
set_option maxRecDepth 20000 in
set_option maxHeartbeats 4000000 in
theorem c_X12i (l : Launch) (G : GT) {I : Nat → Nat → Int32} {L : Nat → Nat → Int64} {R : Nat → Nat → Option Nat} (hI : zI I 173) (hL : zL L 173) (hR : zR' R 173) : Mt l G mX12_init 1 24 10606 [.ref (ra G 172)] (173, SH, I, L, R) (fun r w' => r = none ∧ w' = (197, SH, (up2 I 172 35 (-1)), L, r_m R)) := by
  refine mt_of (own := RX12) (by decide) rfl rfl (fun Z C P B => ?_)
  have D := @dc_of _ _ dX12_init
  refine j_aload_n C (D 0 rfl) rfl ?_
  refine j_oinit C B (inT_mem (i := 1337) (by decide +kernel)) rfl rfl (D 1 rfl) ?_
  refine j_aload_n C (D 2 rfl) rfl ?_
  refine j_sipush (v := nI 220) C (D 3 rfl) (by decide) ?_
  refine j_newint C B (n := 220) rfl (by decide) (by decide) rfl (fun k => (zI_m hI (by decide)) 173 k (Nat.le_refl _)) rfl (by decide) (D 4 rfl) ?_
  show J Z (1, 220) _ _ _ (174, _)
  refine j_putFr (N := 174) (sh := SH) C f_X12_9 rfl rfl ⟨TX12, rfl⟩ ⟨by decide, rfl⟩ rfl rfl (D 5 rfl) ?_
  refine j_aload_n C (D 6 rfl) rfl ?_
  refine j_iconst (v := nI 4) C (D 7 rfl) (by decide) ?_
  refine j_newint C B (n := 4) rfl (by decide) (by decide) rfl (fun k => (zI_m hI (by decide)) 174 k (Nat.le_refl _)) rfl (by decide) (D 8 rfl) ?_
  show J Z (2, 224) _ _ _ (175, _)
  refine j_putFr (N := 175) (sh := SH) C f_X12_13 rfl rfl ⟨TX12, rfl⟩ ⟨by decide, rfl⟩ rfl rfl (D 9 rfl) ?_
  refine j_aload_n C (D 10 rfl) rfl ?_
  refine j_iconst (v := nI 5) C (D 11 rfl) (by decide) ?_
  refine j_newint C B (n := 5) rfl (by decide) (by decide) rfl (fun k => (zI_m hI (by decide)) 175 k (Nat.le_refl _)) rfl (by decide) (D 12 rfl) ?_
  show J Z (3, 229) _ _ _ (176, _)
  refine j_putFr (N := 176) (sh := SH) C f_X12_16 rfl rfl ⟨TX12, rfl⟩ ⟨by decide, rfl⟩ rfl rfl (D 13 rfl) ?_
  refine j_aload_n C (D 14 rfl) rfl ?_
  refine j_sipush (v := nI 1300) C (D 15 rfl) (by decide) ?_
  refine j_newint C B (n := 1300) rfl (by decide) (by decide) rfl (fun k => (zI_m hI (by decide)) 176 k (Nat.le_refl _)) rfl (by decide) (D 16 rfl) ?_
  show J Z (4, 1529) _ _ _ (177, _)
  refine j_putFr (N := 177) (sh := SH) C f_X12_19 rfl rfl ⟨TX12, rfl⟩ ⟨by decide, rfl⟩ rfl rfl (D 17 rfl) ?_
  refine j_aload_n C (D 18 rfl) rfl ?_
  refine j_bipush (v := nI 80) C (D 19 rfl) (by decide) ?_
  refine j_newint C B (n := 80) rfl (by decide) (by decide) rfl (fun k => (zI_m hI (by decide)) 177 k (Nat.le_refl _)) rfl (by decide) (D 20 rfl) ?_
  show J Z (5, 1609) _ _ _ (178, _)
  refine j_putFr (N := 178) (sh := SH) C f_X12_22 rfl rfl ⟨TX12, rfl⟩ ⟨by decide, rfl⟩ rfl rfl (D 21 rfl) ?_
  refine j_aload_n C (D 22 rfl) rfl ?_
  refine j_bipush (v := nI 80) C (D 23 rfl) (by decide) ?_
  refine j_newint C B (n := 80) rfl (by decide) (by decide) rfl (fun k => (zI_m hI (by decide)) 178 k (Nat.le_refl _)) rfl (by decide) (D 24 rfl) ?_
  show J Z (6, 1689) _ _ _ (179, _)
  refine j_putFr (N := 179) (sh := SH) C f_X12_25 rfl rfl ⟨TX12, rfl⟩ ⟨by decide, rfl⟩ rfl rfl (D 25 rfl) ?_
  refine j_aload_n C (D 26 rfl) rfl ?_
  refine j_bipush (v := nI 80) C (D 27 rfl) (by decide) ?_
  refine j_newint C B (n := 80) rfl (by decide) (by decide) rfl (fun k => (zI_m hI (by decide)) 179 k (Nat.le_refl _)) rfl (by decide) (D 28 rfl) ?_
  show J Z (7, 1769) _ _ _ (180, _)
  refine j_putFr (N := 180) (sh := SH) C f_X12_28 rfl rfl ⟨TX12, rfl⟩ ⟨by decide, rfl⟩ rfl rfl (D 29 rfl) ?_
  refine j_aload_n C (D 30 rfl) rfl ?_
  refine j_sipush (v := nI 220) C (D 31 rfl) (by decide) ?_
  refine j_newint C B (n := 220) rfl (by decide) (by decide) rfl (fun k => (zI_m hI (by decide)) 180 k (Nat.le_refl _)) rfl (by decide) (D 32 rfl) ?_
  show J Z (8, 1989) _ _ _ (181, _)
  refine j_putFr (N := 181) (sh := SH) C f_X12_31 rfl rfl ⟨TX12, rfl⟩ ⟨by decide, rfl⟩ rfl rfl (D 33 rfl) ?_
  refine j_aload_n C (D 34 rfl) rfl ?_
  refine j_iconst (v := nI 4) C (D 35 rfl) (by decide) ?_
  refine j_newint C B (n := 4) rfl (by decide) (by decide) rfl (fun k => (zI_m hI (by decide)) 181 k (Nat.le_refl _)) rfl (by decide) (D 36 rfl) ?_
  show J Z (9, 1993) _ _ _ (182, _)
  refine j_putFr (N := 182) (sh := SH) C f_X12_34 rfl rfl ⟨TX12, rfl⟩ ⟨by decide, rfl⟩ rfl rfl (D 37 rfl) ?_
  refine j_aload_n C (D 38 rfl) rfl ?_
  refine j_iconst (v := nI 5) C (D 39 rfl) (by decide) ?_
  refine j_newint C B (n := 5) rfl (by decide) (by decide) rfl (fun k => (zI_m hI (by decide)) 182 k (Nat.le_refl _)) rfl (by decide) (D 40 rfl) ?_
  show J Z (10, 1998) _ _ _ (183, _)
  refine j_putFr (N := 183) (sh := SH) C f_X12_37 rfl rfl ⟨TX12, rfl⟩ ⟨by decide, rfl⟩ rfl rfl (D 41 rfl) ?_
  refine j_aload_n C (D 42 rfl) rfl ?_
  refine j_sipush (v := nI 1300) C (D 43 rfl) (by decide) ?_
  refine j_newint C B (n := 1300) rfl (by decide) (by decide) rfl (fun k => (zI_m hI (by decide)) 183 k (Nat.le_refl _)) rfl (by decide) (D 44 rfl) ?_
  show J Z (11, 3298) _ _ _ (184, _)
  refine j_putFr (N := 184) (sh := SH) C f_X12_40 rfl rfl ⟨TX12, rfl⟩ ⟨by decide, rfl⟩ rfl rfl (D 45 rfl) ?_
  refine j_aload_n C (D 46 rfl) rfl ?_
  refine j_bipush (v := nI 80) C (D 47 rfl) (by decide) ?_
  refine j_newint C B (n := 80) rfl (by decide) (by decide) rfl (fun k => (zI_m hI (by decide)) 184 k (Nat.le_refl _)) rfl (by decide) (D 48 rfl) ?_
  show J Z (12, 3378) _ _ _ (185, _)
  refine j_putFr (N := 185) (sh := SH) C f_X12_43 rfl rfl ⟨TX12, rfl⟩ ⟨by decide, rfl⟩ rfl rfl (D 49 rfl) ?_
  refine j_aload_n C (D 50 rfl) rfl ?_
  refine j_bipush (v := nI 80) C (D 51 rfl) (by decide) ?_
  refine j_newint C B (n := 80) rfl (by decide) (by decide) rfl (fun k => (zI_m hI (by decide)) 185 k (Nat.le_refl _)) rfl (by decide) (D 52 rfl) ?_
  show J Z (13, 3458) _ _ _ (186, _)
  refine j_putFr (N := 186) (sh := SH) C f_X12_46 rfl rfl ⟨TX12, rfl⟩ ⟨by decide, rfl⟩ rfl rfl (D 53 rfl) ?_
  refine j_aload_n C (D 54 rfl) rfl ?_
  refine j_bipush (v := nI 80) C (D 55 rfl) (by decide) ?_
  refine j_newint C B (n := 80) rfl (by decide) (by decide) rfl (fun k => (zI_m hI (by decide)) 186 k (Nat.le_refl _)) rfl (by decide) (D 56 rfl) ?_
  show J Z (14, 3538) _ _ _ (187, _)
  refine j_putFr (N := 187) (sh := SH) C f_X12_49 rfl rfl ⟨TX12, rfl⟩ ⟨by decide, rfl⟩ rfl rfl (D 57 rfl) ?_
  refine j_aload_n C (D 58 rfl) rfl ?_
  refine j_sipush (v := nI 1200) C (D 59 rfl) (by decide) ?_
  refine j_newbyte C B (n := 1200) rfl (by decide) (by decide) rfl (fun k => (zI_m hI (by decide)) 187 k (Nat.le_refl _)) rfl (by decide) (D 60 rfl) ?_
  show J Z (15, 4738) _ _ _ (188, _)
  refine j_putFr (N := 188) (sh := SH) C f_X12_52 rfl rfl ⟨TX12, rfl⟩ ⟨by decide, rfl⟩ rfl rfl (D 61 rfl) ?_
  refine j_aload_n C (D 62 rfl) rfl ?_
  refine j_iconst (v := (-1)) C (D 63 rfl) (by decide) ?_
  refine j_puti (N := 188) (sh := SH) C f_X12_56 ⟨by decide, rfl⟩ rfl rfl (D 64 rfl) ?_
  refine j_aload_n C (D 65 rfl) rfl ?_
  refine j_bipush (v := nI 80) C (D 66 rfl) (by decide) ?_
  refine j_newint C B (n := 80) rfl (by decide) (by decide) rfl (fun k => (zI_up (zI_m hI (by decide)) (by decide)) 188 k (Nat.le_refl _)) rfl (by decide) (D 67 rfl) ?_
  show J Z (16, 4818) _ _ _ (189, _)
  refine j_putFr (N := 189) (sh := SH) C f_X12_60 rfl rfl ⟨TX12, rfl⟩ ⟨by decide, rfl⟩ rfl rfl (D 68 rfl) ?_
  refine j_aload_n C (D 69 rfl) rfl ?_
  refine j_bipush (v := nI 80) C (D 70 rfl) (by decide) ?_
  refine j_newbool C B (n := 80) rfl (by decide) (by decide) rfl (fun k => (zI_up (zI_m hI (by decide)) (by decide)) 189 k (Nat.le_refl _)) rfl (by decide) (D 71 rfl) ?_
  show J Z (17, 4898) _ _ _ (190, _)
  refine j_putFr (N := 190) (sh := SH) C f_X12_63 rfl rfl ⟨TX12, rfl⟩ ⟨by decide, rfl⟩ rfl rfl (D 72 rfl) ?_
  refine j_aload_n C (D 73 rfl) rfl ?_
  refine j_sipush (v := nI 1300) C (D 74 rfl) (by decide) ?_
  refine j_newlong C B (n := 1300) rfl (by decide) (by decide) rfl (fun k => (zL_m hL (by decide)) 190 k (Nat.le_refl _)) rfl (by decide) (D 75 rfl) ?_
  show J Z (18, 6198) _ _ _ (191, _)
  refine j_putFr (N := 191) (sh := SH) C f_X12_67 rfl rfl ⟨TX12, rfl⟩ ⟨by decide, rfl⟩ rfl rfl (D 76 rfl) ?_
  refine j_aload_n C (D 77 rfl) rfl ?_
  refine j_sipush (v := nI 671) C (D 78 rfl) (by decide) ?_
  refine j_newint C B (n := 671) rfl (by decide) (by decide) rfl (fun k => (zI_up (zI_m hI (by decide)) (by decide)) 191 k (Nat.le_refl _)) rfl (by decide) (D 79 rfl) ?_
  show J Z (19, 6869) _ _ _ (192, _)
  refine j_putFr (N := 192) (sh := SH) C f_X12_71 rfl rfl ⟨TX12, rfl⟩ ⟨by decide, rfl⟩ rfl rfl (D 80 rfl) ?_
  refine j_aload_n C (D 81 rfl) rfl ?_
  refine j_sipush (v := nI 488) C (D 82 rfl) (by decide) ?_
  refine j_newint C B (n := 488) rfl (by decide) (by decide) rfl (fun k => (zI_up (zI_m hI (by decide)) (by decide)) 192 k (Nat.le_refl _)) rfl (by decide) (D 83 rfl) ?_
  show J Z (20, 7357) _ _ _ (193, _)
  refine j_putFr (N := 193) (sh := SH) C f_X12_74 rfl rfl ⟨TX12, rfl⟩ ⟨by decide, rfl⟩ rfl rfl (D 84 rfl) ?_
  refine j_aload_n C (D 85 rfl) rfl ?_
  refine j_sipush (v := nI 549) C (D 86 rfl) (by decide) ?_
  refine j_newint C B (n := 549) rfl (by decide) (by decide) rfl (fun k => (zI_up (zI_m hI (by decide)) (by decide)) 193 k (Nat.le_refl _)) rfl (by decide) (D 87 rfl) ?_
  show J Z (21, 7906) _ _ _ (194, _)
  refine j_putFr (N := 194) (sh := SH) C f_X12_77 rfl rfl ⟨TX12, rfl⟩ ⟨by decide, rfl⟩ rfl rfl (D 88 rfl) ?_
  refine j_aload_n C (D 89 rfl) rfl ?_
  refine j_bipush (v := nI 80) C (D 90 rfl) (by decide) ?_
  refine j_newint C B (n := 80) rfl (by decide) (by decide) rfl (fun k => (zI_up (zI_m hI (by decide)) (by decide)) 194 k (Nat.le_refl _)) rfl (by decide) (D 91 rfl) ?_
  show J Z (22, 7986) _ _ _ (195, _)
  refine j_putFr (N := 195) (sh := SH) C f_X12_80 rfl rfl ⟨TX12, rfl⟩ ⟨by decide, rfl⟩ rfl rfl (D 92 rfl) ?_
  refine j_aload_n C (D 93 rfl) rfl ?_
  refine j_sipush (v := nI 2420) C (D 94 rfl) (by decide) ?_
  refine j_newint C B (n := 2420) rfl (by decide) (by decide) rfl (fun k => (zI_up (zI_m hI (by decide)) (by decide)) 195 k (Nat.le_refl _)) rfl (by decide) (D 95 rfl) ?_
  show J Z (23, 10406) _ _ _ (196, _)
  refine j_putFr (N := 196) (sh := SH) C f_X12_83 rfl rfl ⟨TX12, rfl⟩ ⟨by decide, rfl⟩ rfl rfl (D 96 rfl) ?_
  refine j_aload_n C (D 97 rfl) rfl ?_
  refine j_sipush (v := nI 200) C (D 98 rfl) (by decide) ?_
  refine j_newbyte C B (n := 200) rfl (by decide) (by decide) rfl (fun k => (zI_up (zI_m hI (by decide)) (by decide)) 196 k (Nat.le_refl _)) rfl (by decide) (D 99 rfl) ?_
  show J Z (24, 10606) _ _ _ (197, _)
  refine j_putFr (N := 197) (sh := SH) C f_X12_86 rfl rfl ⟨TX12, rfl⟩ ⟨by decide, rfl⟩ rfl rfl (D 100 rfl) ?_
  exact j_vret C P rfl (D 101 rfl) (by decide) ⟨rfl, rfl⟩
end
section
/-! THE START: what the tables and the premises say of constants and classes -/
theorem inL {i : Nat} {w : Cond} (h : decide (nth lw_tbl i = some w) = true) : w ∈ lw_tbl := nth_mem (of_decide_eq_true h)
def nrL : List Cond := flatC (Jvm.Cond.and given_1 narrow_1)
theorem inN {i : Nat} {w : Cond} (h : decide (nth nrL i = some w) = true) : w ∈ nrL := nth_mem (of_decide_eq_true h)
def sgT (i : Nat) : Term := .static "TenTrials$Sign" (sgL.getD i "") "LTenTrials$Sign;"
def vsT : Term := .static "TenTrials$Sign" "$VALUES" "[LTenTrials$Sign;"
def stq (i : Nat) : String × Nat × String × List Int32 := stL.getD i ("", 0, "", [])
def stT (i : Nat) : Term := .string (stq i).1 (stq i).2.1
theorem n_lay : ∀ i, i < 42 → decide (nth lw_tbl (List.getD [661, 673, 671, 683, 718, 720, 712, 714, 716, 694, 722, 728, 730, 732, 734, 740, 815, 828, 839, 845, 809, 807, 754, 785, 795, 791, 793, 847, 704, 706, 801, 803, 805, 797, 799, 765, 771, 781, 783, 572, 637, 642] i 0) = some (Cond.laysStatic "TenTrials$Sign" (sgL.getD i "") "LTenTrials$Sign;")) = true := by decide +kernel
theorem n_ex : ∀ i, i < 42 → decide (nth nrL (List.getD [65, 71, 68, 74, 95, 98, 86, 89, 92, 77, 101, 104, 107, 110, 113, 116, 167, 170, 173, 176, 164, 161, 119, 134, 143, 137, 140, 179, 80, 83, 152, 155, 158, 146, 149, 122, 125, 128, 131, 51, 59, 62] i 0) = some (Cond.exactly (sgT i) "TenTrials$Sign")) = true := by decide +kernel
theorem n_od : ∀ i, i < 42 → decide (nth nrL (List.getD [66, 72, 69, 75, 96, 99, 87, 90, 93, 78, 102, 105, 108, 111, 114, 117, 168, 171, 174, 177, 165, 162, 120, 135, 144, 138, 141, 180, 81, 84, 153, 156, 159, 147, 150, 123, 126, 129, 132, 52, 60, 63] i 0) = some (Cond.eq (.field (sgT i) "java/lang/Enum" "ordinal" "I") (.int (Int32.ofNat i)))) = true := by decide +kernel
theorem n_sp : ∀ i, i < 42 → decide (nth nrL (List.getD [67, 73, 70, 76, 97, 100, 88, 91, 94, 79, 103, 106, 109, 112, 115, 118, 169, 172, 175, 178, 166, 163, 121, 136, 145, 139, 142, 181, 82, 85, 154, 157, 160, 148, 151, 124, 127, 130, 133, 53, 61, 64] i 0) = some (Cond.eq (.field (sgT i) "TenTrials$Sign" "spelling" "Ljava/lang/String;") (stT (spl i)))) = true := by decide +kernel
theorem n_el : ∀ i, i < 42 → decide (nth nrL (List.getD [9, 10, 11, 12, 13, 14, 15, 16, 17, 18, 19, 20, 21, 22, 23, 24, 25, 26, 27, 28, 29, 30, 31, 32, 33, 34, 35, 36, 37, 38, 39, 40, 41, 42, 43, 44, 45, 46, 47, 48, 49, 50] i 0) = some (Cond.eq (.elem vsT (.int (Int32.ofNat i))) (sgT i))) = true := by decide +kernel
theorem n_sx : ∀ i, i < 67 → decide (nth nrL (List.getD [221, 230, 239, 246, 254, 262, 272, 280, 289, 295, 305, 312, 320, 328, 336, 345, 353, 360, 370, 379, 387, 396, 403, 409, 420, 428, 436, 442, 446, 456, 466, 474, 483, 493, 498, 503, 512, 523, 532, 539, 550, 558, 567, 576, 585, 595, 604, 612, 617, 622, 627, 632, 643, 652, 662, 672, 677, 682, 687, 692, 697, 705, 712, 724, 733, 742, 749] i 0) = some (Cond.exactly (stT i) "java/lang/String")) = true := by decide +kernel
theorem n_sc : ∀ i, i < 67 → decide (nth nrL (List.getD [222, 231, 240, 247, 255, 263, 273, 281, 290, 296, 306, 313, 321, 329, 337, 346, 354, 361, 371, 380, 388, 397, 404, 410, 421, 429, 437, 443, 447, 457, 467, 475, 484, 494, 499, 504, 513, 524, 533, 540, 551, 559, 568, 577, 586, 596, 605, 613, 618, 623, 628, 633, 644, 653, 663, 673, 678, 683, 688, 693, 698, 706, 713, 725, 734, 743, 750] i 0) = some (Cond.eq (.field (stT i) "java/lang/String" "coder" "B") (.int 0))) = true := by decide +kernel
theorem n_sa : ∀ i, i < 67 → decide (nth nrL (List.getD [223, 232, 241, 248, 256, 264, 274, 282, 291, 297, 307, 314, 322, 330, 338, 347, 355, 362, 372, 381, 389, 398, 405, 411, 422, 430, 438, 444, 448, 458, 468, 476, 485, 495, 500, 505, 514, 525, 534, 541, 552, 560, 569, 578, 587, 597, 606, 614, 619, 624, 629, 634, 645, 654, 664, 674, 679, 684, 689, 694, 699, 707, 714, 726, 735, 744, 751] i 0) = some (Cond.arrayOf (.field (stT i) "java/lang/String" "value" "[B") .byte)) = true := by decide +kernel
theorem n_sl : ∀ i, i < 67 → decide (nth nrL (List.getD [224, 233, 242, 249, 257, 265, 275, 283, 292, 298, 308, 315, 323, 331, 339, 348, 356, 363, 373, 382, 390, 399, 406, 412, 423, 431, 439, 445, 449, 459, 469, 477, 486, 496, 501, 506, 515, 526, 535, 542, 553, 561, 570, 579, 588, 598, 607, 615, 620, 625, 630, 635, 646, 655, 665, 675, 680, 685, 690, 695, 700, 708, 715, 727, 736, 745, 752] i 0) = some (Cond.eq (.length (.field (stT i) "java/lang/String" "value" "[B")) (.int (Int32.ofNat (stLen i))))) = true := by decide +kernel
def seL : List (List Nat) := [[225, 226, 227, 228, 229], [234, 235, 236, 237, 238], [243, 244, 245], [250, 251, 252, 253], [258, 259, 260, 261], [266, 267, 268, 269, 270, 271], [276, 277, 278, 279], [284, 285, 286, 287, 288], [293, 294], [299, 300, 301, 302, 303, 304], [309, 310, 311], [316, 317, 318, 319], [324, 325, 326, 327], [332, 333, 334, 335], [340, 341, 342, 343, 344], [349, 350, 351, 352], [357, 358, 359], [364, 365, 366, 367, 368, 369], [374, 375, 376, 377, 378], [383, 384, 385, 386], [391, 392, 393, 394, 395], [400, 401, 402], [407, 408], [413, 414, 415, 416, 417, 418, 419], [424, 425, 426, 427], [432, 433, 434, 435], [440, 441], [], [450, 451, 452, 453, 454], [460, 461, 462, 463, 464], [470, 471, 472], [478, 479, 480, 481], [487, 488, 489, 490, 491], [497], [502], [507, 508, 509, 510], [516, 517, 518, 519, 520, 521], [527, 528, 529, 530], [536, 537], [543, 544, 545, 546, 547, 548], [554, 555, 556], [562, 563, 564, 565], [571, 572, 573, 574], [580, 581, 582, 583], [589, 590, 591, 592, 593], [599, 600, 601, 602], [608, 609, 610], [616], [621], [626], [631], [636, 637, 638, 639, 640, 641], [647, 648, 649, 650], [656, 657, 658, 659, 660], [666, 667, 668, 669, 670], [676], [681], [686], [691], [696], [701, 702, 703], [709, 710], [716, 717, 718, 719, 720, 721, 722], [728, 729, 730, 731], [737, 738, 739, 740], [746, 747], [753]]
theorem n_se : ∀ i, i < 67 → ∀ j, j < stLen i → decide (nth nrL ((seL.getD i []).getD j 0) = some (Cond.eq (.elem (.field (stT i) "java/lang/String" "value" "[B") (.int (Int32.ofNat j))) (.int (stByt i j)))) = true := by decide +kernel
theorem n_sr : ∀ i, i < 67 → decide (nth lw_tbl (List.getD [1524, 1539, 1540, 1541, 1555, 1556, 1557, 1558, 1576, 1577, 1578, 1583, 1584, 1585, 1586, 1591, 1604, 1621, 1622, 1623, 1624, 1625, 1626, 1627, 1628, 1629, 1630, 1998, 1999, 2000, 2001, 2002, 2003, 2004, 2005, 2006, 2007, 2008, 2009, 2010, 2011, 2012, 2013, 2014, 2015, 2016, 2017, 2018, 2019, 2020, 2021, 2022, 2023, 2024, 2025, 2026, 2027, 2028, 2029, 2030, 2031, 2032, 2033, 2034, 2035, 2036, 2037] i 0) = some (Cond.stringRef (stq i).1 (stq i).2.1 (stq i).2.2.1)) = true := by decide +kernel
theorem n_ns : ∀ i, i < 15 → decide (nth lw_tbl (List.getD [144, 160, 166, 215, 248, 378, 403, 457, 480, 690, 824, 837, 976, 1054, 1193] i 0) = (nth nsL i).map (fun q => Cond.methodLinkNest q.1 q.2.1 q.2.2 "TenTrials")) = true := by decide +kernel
theorem spl_lt : ∀ i, i < 42 → spl i < 67 := by decide +kernel

section START
variable {args : Array Value} {s : State} {A : Nat → Prop}
theorem sg_start (hts : ∀ w ∈ lw_tbl, w.before args s = true) (hn : ∀ w ∈ nrL, w.before args s = true) (hA : ∀ a : Nat, a < s.heap.size → ¬ A a) : ∃ ad : Nat → Nat, ∀ i, i < 42 → (sgT i).eval args s none [] s = some (.ref (ad i)) ∧ va_Z "TenTrials$Sign" (sgL.getD i "") "LTenTrials$Sign;" (.ref (ad i)) A s s.heap ∧ va_O "TenTrials$Sign" (ad i) A s s.heap := by
  have h0 : ∀ i : Nat, ∃ t : Nat, i < 42 → (sgT i).eval args s none [] s = some (.ref t) ∧ va_Z "TenTrials$Sign" (sgL.getD i "") "LTenTrials$Sign;" (.ref t) A s s.heap ∧ va_O "TenTrials$Sign" t A s s.heap := by
    intro i
    by_cases hi : i < 42
    · obtain ⟨a, c, cell, k, q1, q2, q3, q4, q5, q6, -⟩ := Cond.exactly_spec (hn _ (inN (n_ex i hi)))
      exact ⟨a, fun _ => ⟨q1, va_Zof (hts _ (inL (n_lay i hi))) (hts _ (inL (i := 119) (by decide +kernel))) q1 hA, cell, q3, q5, by rw [q6]; exact q2, hA a (Array.getElem?_eq_some_iff.mp q3).1⟩⟩
    · exact ⟨0, fun h => absurd h hi⟩
  exact Classical.axiomOfChoice h0
theorem st_start (hn : ∀ w ∈ nrL, w.before args s = true) (hA : ∀ a : Nat, a < s.heap.size → ¬ A a) : ∃ ad : Nat → Nat × Nat, ∀ i, i < 67 → (stT i).eval args s none [] s = some (.ref (ad i).1) ∧ va_O "java/lang/String" (ad i).1 A s s.heap ∧ va_OF "java/lang/String" "coder" "B" (.int 0) (ad i).1 A s s.heap ∧ va_OF "java/lang/String" "value" "[B" (.ref (ad i).2) (ad i).1 A s s.heap ∧ va_T .byte (ad i).2 (stLen i) (fun j => .int (stByt i j)) A s s.heap := by
  have hl31 : ∀ i, i < 67 → stLen i < 2 ^ 31 := by decide +kernel
  have h0 : ∀ i : Nat, ∃ q : Nat × Nat, i < 67 → (stT i).eval args s none [] s = some (.ref q.1) ∧ va_O "java/lang/String" q.1 A s s.heap ∧ va_OF "java/lang/String" "coder" "B" (.int 0) q.1 A s s.heap ∧ va_OF "java/lang/String" "value" "[B" (.ref q.2) q.1 A s s.heap ∧ va_T .byte q.2 (stLen i) (fun j => .int (stByt i j)) A s s.heap := by
    intro i
    by_cases hi : i < 67
    · obtain ⟨a, c, cA, kA, q1, q2, q3, q4, q5, q6, -⟩ := Cond.exactly_spec (hn _ (inN (n_sx i hi)))
      obtain ⟨t, ht, hT⟩ := va_Tof (f := fun j => .int (stByt i j)) (A := A) (hl31 i hi) (hn _ (inN (n_sa i hi))) (va_eqt (hn _ (inN (n_sl i hi)))) (fun j hj => va_eqt (hn _ (inN (n_se i hi j hj)))) hA
      exact ⟨(a, t), fun _ => ⟨q1, ⟨cA, q3, q5, by rw [q6]; exact q2, hA a (Array.getElem?_eq_some_iff.mp q3).1⟩, vk_OFof q1 (va_eqt (hn _ (inN (n_sc i hi)))) hA, vk_OFof q1 ht hA, hT⟩⟩
    · exact ⟨(0, 0), fun h => absurd h hi⟩
  exact Classical.axiomOfChoice h0
theorem ar_p {ty : FieldType} (h : (Cond.arrayClass ty).before args s = true) : ∃ c, ArrOfT s c ty ∧ s.vm.findClass ("[" ++ ty.toString) = some c := by
  obtain ⟨c, k, comp, h1, h2, h3⟩ := Cond.arrayClass_spec h
  exact ⟨c, fun n z => ⟨fun k h => (by cases h), k, h2, comp, h3⟩, h1⟩
theorem ar_o {C : String} (h : (Cond.arrayOver (.object C)).before args s = true) : ∃ c, ArrOfT s c (.object C) ∧ va_RA s c (.object C) := by
  obtain ⟨comp, c, k, h1, h2, h3, h4, h5⟩ := Cond.arrayOver_spec h
  exact ⟨c, fun n z => ⟨fun k h => (by cases h), k, h3, comp, h4⟩, k, comp, h3, h4, h1, h5⟩
theorem ar_a (h : (Cond.arrayOver (.array .int)).before args s = true) : ∃ c, ArrOfT s c (.array .int) ∧ s.vm.findClass ("[" ++ (FieldType.array .int).toString) = some c := by
  obtain ⟨comp, c, k, h1, h2, h3, h4, h5⟩ := arrayOverA_spec h
  exact ⟨c, fun n z => ⟨fun k h => (by cases h), k, h3, comp, h4⟩, h5⟩
theorem len_42 {t : Term} {n : Nat} {a : Nat} {cell : Cell} (h : (Term.length t).eval args s none [] s = some (.int (Int32.ofNat n))) (hn : n < 2 ^ 31) (ht : t.eval args s none [] s = some (.ref a)) (hc : s.heap[a]? = some cell) : cell.slots.size = n := by
  obtain ⟨b, cell', ht', harr, -⟩ := Term.length_spec h
  cases ht.symm.trans ht'
  obtain ⟨hcell, -, -, -⟩ := State.arrayAt?_spec harr
  cases hc.symm.trans hcell
  simp only [Term.eval, ht, harr, Option.bind_eq_bind, Option.bind_some] at h
  by_cases hlt : cell.slots.size < 2147483648
  · simp [hlt] at h
    have h2 : (Int32.ofNat cell.slots.size).toInt = (Int32.ofNat n).toInt := congrArg Int32.toInt h
    rw [Int32.toInt_ofNat_small hlt, Int32.toInt_ofNat_small hn] at h2
    omega
  · simp [hlt] at h
end START

theorem nth_get {α : Type} : ∀ (l : List α) (i : Nat), nth l i = l[i]?
  | [], i => by simp [nth]
  | x :: t, 0 => by simp [nth]
  | x :: t, i + 1 => by simp [nth, nth_get t i]
theorem GW_start {args : Array Value} {s : State} (hts : ∀ w ∈ lw_tbl, w.before args s = true) (hn : ∀ w ∈ nrL, w.before args s = true) : ∃ G : GT, gb G = s.heap.size ∧ GW G s := by
  have hA : ∀ a : Nat, a < s.heap.size → ¬ (fun q : Nat => s.heap.size ≤ q) a := fun a h => Nat.not_le.mpr h
  have ht2 : ∀ w ∈ tbl2, w.before args s = true := fun w hw => hts w (List.mem_filter.mp hw).1
  obtain ⟨c0, i0, k0⟩ := u_known (C := RX0) (T := TX0) (N := 8) (n := 8) ht2 us_X0 (hts _ (inL (i := 214) (by decide +kernel)))
  obtain ⟨c1, i1, k1⟩ := u_known (C := RX1) (T := TX1) (N := 8) (n := 8) ht2 us_X1 (hts _ (inL (i := 206) (by decide +kernel)))
  obtain ⟨c2, i2, k2⟩ := u_known (C := RX2) (T := TX2) (N := 5) (n := 5) ht2 us_X2 (hts _ (inL (i := 377) (by decide +kernel)))
  obtain ⟨c3, i3, k3⟩ := u_known (C := RX3) (T := TX3) (N := 2) (n := 2) ht2 us_X3 (hts _ (inL (i := 143) (by decide +kernel)))
  obtain ⟨c4, i4, k4⟩ := u_known (C := RX4) (T := TX4) (N := 8) (n := 8) ht2 us_X4 (hts _ (inL (i := 159) (by decide +kernel)))
  obtain ⟨c5, i5, k5⟩ := u_known (C := RX5) (T := TX5) (N := 9) (n := 9) ht2 us_X5 (hts _ (inL (i := 402) (by decide +kernel)))
  obtain ⟨c6, i6, k6⟩ := u_known (C := RX6) (T := TX6) (N := 3) (n := 3) ht2 us_X6 (hts _ (inL (i := 479) (by decide +kernel)))
  obtain ⟨c8, i8, k8⟩ := u_known (C := RX8) (T := TX8) (N := 6) (n := 6) ht2 us_X8 (hts _ (inL (i := 450) (by decide +kernel)))
  obtain ⟨c9, i9, k9⟩ := u_known (C := RX9) (T := TX9) (N := 5) (n := 5) ht2 us_X9 (hts _ (inL (i := 165) (by decide +kernel)))
  obtain ⟨c10, i10, k10⟩ := u_known (C := RX10) (T := TX10) (N := 9) (n := 9) ht2 us_X10 (hts _ (inL (i := 247) (by decide +kernel)))
  obtain ⟨c11, i11, k11⟩ := u_known (C := RX11) (T := TX11) (N := 12) (n := 12) ht2 us_X11 (hts _ (inL (i := 135) (by decide +kernel)))
  obtain ⟨c12, i12, k12⟩ := u_known (C := RX12) (T := TX12) (N := 48) (n := 48) ht2 us_X12 (hts _ (inL (i := 1333) (by decide +kernel)))
  obtain ⟨dC, dI, hKc⟩ : ∃ (dC : Nat → ClassId) (dI : Nat → Nat → Nat), ∀ (k : Nat) (q : vw_C), cls[k]? = some q → u_Kn s q.1 q.2.1 q.2.2 (dC k) (dI k) := by
    refine ⟨fun k => ([c0, c1, c2, c3, c4, c5, c6, c0, c8, c9, c10, c11, c12] : List ClassId).getD k 0, fun k => ([i0, i1, i2, i3, i4, i5, i6, i0, i8, i9, i10, i11, i12] : List (Nat → Nat)).getD k (fun _ => 0), ?_⟩
    intro k q hq
    match k, hq with
    | 0, hq => cases hq; exact k0
    | 1, hq => cases hq; exact k1
    | 2, hq => cases hq; exact k2
    | 3, hq => cases hq; exact k3
    | 4, hq => cases hq; exact k4
    | 5, hq => cases hq; exact k5
    | 6, hq => cases hq; exact k6
    | 7, hq => cases hq; exact k0
    | 8, hq => cases hq; exact k8
    | 9, hq => cases hq; exact k9
    | 10, hq => cases hq; exact k10
    | 11, hq => cases hq; exact k11
    | 12, hq => cases hq; exact k12
    | k + 13, hq => simp [cls] at hq
  obtain ⟨a0, a0a, a0b⟩ := ar_p (ty := .int) (hts _ (inL (i := 204) (by decide +kernel)))
  obtain ⟨a1, a1a, a1b⟩ := ar_p (ty := .byte) (hts _ (inL (i := 157) (by decide +kernel)))
  obtain ⟨a2, a2a, a2b⟩ := ar_p (ty := .boolean) (hts _ (inL (i := 448) (by decide +kernel)))
  obtain ⟨a3, a3a, a3b⟩ := ar_p (ty := .long) (hts _ (inL (i := 1482) (by decide +kernel)))
  obtain ⟨a4, a4a, a4b⟩ := ar_o (C := "TenTrials$Sign") (hts _ (inL (i := 171) (by decide +kernel)))
  obtain ⟨a5, a5a, a5b⟩ := ar_o (C := "TenTrials$Trial") (hts _ (inL (i := 212) (by decide +kernel)))
  obtain ⟨a6, a6a, a6b⟩ := ar_o (C := "TenTrials$Score") (hts _ (inL (i := 456) (by decide +kernel)))
  obtain ⟨a7, a7a, a7b⟩ := ar_a (hts _ (inL (i := 485) (by decide +kernel)))
  obtain ⟨adE, hE⟩ := sg_start hts hn hA
  obtain ⟨adK, hK⟩ := st_start hn hA
  refine ⟨(s.heap.size, (dC, dI), fun k => ([a0, a1, a2, a3, a4, a5, a6, a7] : List ClassId).getD k 0, adE, fun i => (adK i).1, fun i => (adK i).2), rfl, ⟨hKc, ?_⟩, ?_, ?_, ?_, ?_, ?_, ?_, ?_, ?_, ?_⟩
  · intro k q hq
    match k, hq with
    | 0, hq => cases hq; exact ⟨a0a, a0b⟩
    | 1, hq => cases hq; exact ⟨a1a, a1b⟩
    | 2, hq => cases hq; exact ⟨a2a, a2b⟩
    | 3, hq => cases hq; exact ⟨a3a, a3b⟩
    | 4, hq => cases hq; exact ⟨a4a, a4b⟩
    | 5, hq => cases hq; exact ⟨a5a, a5b⟩
    | 6, hq => cases hq; exact ⟨a6a, a6b⟩
    | 7, hq => cases hq; exact ⟨a7a, a7b⟩
    | k + 8, hq => simp [tysL] at hq
  · intro q hq
    obtain ⟨i, hi⟩ := List.getElem?_of_mem hq
    have hl : i < 15 := (List.getElem?_eq_some_iff.mp hi).1
    have h1 := of_decide_eq_true (n_ns i hl)
    rw [nth_get nsL, hi] at h1
    exact va_Nw.of rfl (hts _ (nth_mem h1))
  · intro i hi
    obtain ⟨q1, q2, q3⟩ := hE i hi
    obtain ⟨r1, -⟩ := hK (spl i) (spl_lt i hi)
    exact ⟨q2, q3, vk_OFof q1 (va_eqv (hn _ (inN (n_sp i hi))) r1) hA⟩
  · intro i j hi hj e
    have e : adE i = adE j := e
    have h1 := va_eqt (hn _ (inN (n_od i hi)))
    have h2 := va_eqt (hn _ (inN (n_od j hj)))
    rw [va_fe (hE i hi).1, e] at h1
    rw [va_fe (hE j hj).1, h1] at h2
    have h3 : (Int32.ofNat i).toInt = (Int32.ofNat j).toInt := congrArg Int32.toInt (Value.int.inj (Option.some.inj h2))
    rw [Int32.toInt_ofNat_small (Nat.lt_trans hi (by decide)), Int32.toInt_ofNat_small (Nat.lt_trans hj (by decide))] at h3
    omega
  · intro i hi
    exact (hK i hi).2
  · intro i q hq
    have hl : i < 67 := (List.getElem?_eq_some_iff.mp hq).1
    have e : stq i = q := by unfold stq; rw [List.getD_eq_getElem?_getD, hq]; rfl
    have h1 := hts _ (inL (n_sr i hl))
    have h2 := (hK i hl).1
    unfold stT at h2
    rw [e] at h1 h2
    exact vk_R.of h1 h2
  · exact va_Zof (hts _ (inL (i := 597) (by decide +kernel))) (hts _ (inL (i := 129) (by decide +kernel))) (va_eqi (hn _ (inN (i := 54) (by decide +kernel)))) hA
  · exact va_Zqof (hts _ (inL (i := 613) (by decide +kernel))) (hts _ (inL (i := 131) (by decide +kernel))) (hn _ (inN (i := 55) (by decide +kernel))) hA
  · obtain ⟨t, c, cell, k, q1, q2, q3, q4, q5, q6, -⟩ := Cond.exactly_spec (t := vsT) (cls := "[LTenTrials$Sign;") (hn _ (inN (i := 5) (by decide +kernel)))
    have hlen := va_eqt (hn (Cond.eq (.length vsT) (.int (Int32.ofNat 42))) (inN (i := 7) (by decide +kernel)))
    obtain ⟨t', ht', hT⟩ := va_Tof (tm := vsT) (ty := .object "TenTrials$Sign") (N := 42) (f := fun j => .ref (adE j)) (A := fun q : Nat => s.heap.size ≤ q) (by decide) (hn _ (inN (i := 6) (by decide +kernel))) hlen (fun j hj => va_eqv (hn _ (inN (n_el j hj))) (hE j hj).1) hA
    cases q1.symm.trans ht'
    refine ⟨t, va_Zof (hts _ (inL (i := 176) (by decide +kernel))) (hts _ (inL (i := 119) (by decide +kernel))) q1 hA, hT, fun cell' hc' => ⟨len_42 hlen (by decide) q1 hc', ?_⟩⟩
    cases q3.symm.trans hc'
    obtain ⟨kA, comp, g1, g2, g3, g4⟩ := a4b
    have e : "[" ++ (FieldType.object "TenTrials$Sign").toString = "[LTenTrials$Sign;" := by decide +kernel
    rw [e] at g4
    show cell.cls = a4
    rw [q6]
    exact Option.some.inj (q2.symm.trans g4)
  · exact ⟨va_AO.of (hts _ (inL (i := 171) (by decide +kernel))), va_AO.of (hts _ (inL (i := 212) (by decide +kernel))), va_AO.of (hts _ (inL (i := 456) (by decide +kernel))), hts (Cond.arrayOver (.array .int)) (inL (i := 485) (by decide +kernel)), va_Nw.of rfl (hts _ (inL (i := 182) (by decide +kernel)))⟩
end
