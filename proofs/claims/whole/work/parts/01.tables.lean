-- ===== PART A: goes FIRST, ahead of the names: the tables' words, and 'selects' of the private methods out of them =====
/-- a private method of a class that the tables say can be made, by its rows of tables_1 -/
def lw_okq (q : MethodName × Nat) : Prop := (q.1.cls ≠ "java/lang/invoke/MethodHandle" ∧ q.1.cls ≠ "java/lang/invoke/VarHandle") ∧ Cond.instantiable q.1.cls q.2 ∈ tables_1 ∧ Cond.privateMethod q.1 ∈ tables_1 ∧ Cond.instanceMethod q.1 ∈ tables_1
theorem lw_p0 : lw_okq (⟨"TruthCord$Reader", "takeRun", "()Z"⟩, 8) := ⟨⟨by decide +kernel, by decide +kernel⟩, List.mem_of_getElem? (i := 55) (by decide +kernel), List.mem_of_getElem? (i := 598) (by decide +kernel), List.mem_of_getElem? (i := 599) (by decide +kernel)⟩
theorem lw_p1 : lw_okq (⟨"TruthCord$Valley", "takeLine", "(LTruthCord$Reader;)Z"⟩, 14) := ⟨⟨by decide +kernel, by decide +kernel⟩, List.mem_of_getElem? (i := 144) (by decide +kernel), List.mem_of_getElem? (i := 602) (by decide +kernel), List.mem_of_getElem? (i := 603) (by decide +kernel)⟩
theorem lw_p2 : lw_okq (⟨"TruthCord$Valley", "takeWho", "(LTruthCord$Reader;)Z"⟩, 14) := ⟨⟨by decide +kernel, by decide +kernel⟩, List.mem_of_getElem? (i := 144) (by decide +kernel), List.mem_of_getElem? (i := 613) (by decide +kernel), List.mem_of_getElem? (i := 614) (by decide +kernel)⟩
theorem lw_p3 : lw_okq (⟨"TruthCord$Valley", "takeNewName", "(LTruthCord$Reader;)Z"⟩, 14) := ⟨⟨by decide +kernel, by decide +kernel⟩, List.mem_of_getElem? (i := 144) (by decide +kernel), List.mem_of_getElem? (i := 621) (by decide +kernel), List.mem_of_getElem? (i := 622) (by decide +kernel)⟩
theorem lw_p4 : lw_okq (⟨"TruthCord$Valley", "takeFact", "(LTruthCord$Reader;)Z"⟩, 14) := ⟨⟨by decide +kernel, by decide +kernel⟩, List.mem_of_getElem? (i := 144) (by decide +kernel), List.mem_of_getElem? (i := 640) (by decide +kernel), List.mem_of_getElem? (i := 641) (by decide +kernel)⟩
theorem lw_p5 : lw_okq (⟨"TruthCord$Valley", "takeKnows", "(LTruthCord$Reader;)Z"⟩, 14) := ⟨⟨by decide +kernel, by decide +kernel⟩, List.mem_of_getElem? (i := 144) (by decide +kernel), List.mem_of_getElem? (i := 653) (by decide +kernel), List.mem_of_getElem? (i := 654) (by decide +kernel)⟩
theorem lw_p6 : lw_okq (⟨"TruthCord$Valley", "takeSince", "(LTruthCord$Reader;)Z"⟩, 14) := ⟨⟨by decide +kernel, by decide +kernel⟩, List.mem_of_getElem? (i := 144) (by decide +kernel), List.mem_of_getElem? (i := 660) (by decide +kernel), List.mem_of_getElem? (i := 661) (by decide +kernel)⟩
theorem lw_p7 : lw_okq (⟨"TruthCord$Valley", "takeAsks", "(LTruthCord$Reader;)Z"⟩, 14) := ⟨⟨by decide +kernel, by decide +kernel⟩, List.mem_of_getElem? (i := 144) (by decide +kernel), List.mem_of_getElem? (i := 664) (by decide +kernel), List.mem_of_getElem? (i := 665) (by decide +kernel)⟩
theorem lw_p8 : lw_okq (⟨"TruthCord$Valley", "takeSetting", "(LTruthCord$Reader;I)Z"⟩, 14) := ⟨⟨by decide +kernel, by decide +kernel⟩, List.mem_of_getElem? (i := 144) (by decide +kernel), List.mem_of_getElem? (i := 668) (by decide +kernel), List.mem_of_getElem? (i := 669) (by decide +kernel)⟩
theorem lw_p9 : lw_okq (⟨"TruthCord", "noteReading", "()V"⟩, 17) := ⟨⟨by decide +kernel, by decide +kernel⟩, List.mem_of_getElem? (i := 27) (by decide +kernel), List.mem_of_getElem? (i := 676) (by decide +kernel), List.mem_of_getElem? (i := 677) (by decide +kernel)⟩
theorem lw_p10 : lw_okq (⟨"TruthCord", "refusedAt", "()I"⟩, 17) := ⟨⟨by decide +kernel, by decide +kernel⟩, List.mem_of_getElem? (i := 27) (by decide +kernel), List.mem_of_getElem? (i := 680) (by decide +kernel), List.mem_of_getElem? (i := 681) (by decide +kernel)⟩
theorem lw_p11 : lw_okq (⟨"TruthCord", "judgeAnew", "()V"⟩, 17) := ⟨⟨by decide +kernel, by decide +kernel⟩, List.mem_of_getElem? (i := 27) (by decide +kernel), List.mem_of_getElem? (i := 696) (by decide +kernel), List.mem_of_getElem? (i := 697) (by decide +kernel)⟩
theorem lw_p12 : lw_okq (⟨"TruthCord$Ledger", "clear", "()V"⟩, 17) := ⟨⟨by decide +kernel, by decide +kernel⟩, List.mem_of_getElem? (i := 303) (by decide +kernel), List.mem_of_getElem? (i := 704) (by decide +kernel), List.mem_of_getElem? (i := 705) (by decide +kernel)⟩
theorem lw_p13 : lw_okq (⟨"TruthCord$Ledger", "judgeLine", "(I)I"⟩, 17) := ⟨⟨by decide +kernel, by decide +kernel⟩, List.mem_of_getElem? (i := 303) (by decide +kernel), List.mem_of_getElem? (i := 712) (by decide +kernel), List.mem_of_getElem? (i := 713) (by decide +kernel)⟩
theorem lw_p14 : lw_okq (⟨"TruthCord$Ledger", "whyWrong", "(III)I"⟩, 17) := ⟨⟨by decide +kernel, by decide +kernel⟩, List.mem_of_getElem? (i := 303) (by decide +kernel), List.mem_of_getElem? (i := 716) (by decide +kernel), List.mem_of_getElem? (i := 717) (by decide +kernel)⟩
theorem lw_p15 : lw_okq (⟨"TruthCord$Ledger", "lie", "(I)V"⟩, 17) := ⟨⟨by decide +kernel, by decide +kernel⟩, List.mem_of_getElem? (i := 303) (by decide +kernel), List.mem_of_getElem? (i := 725) (by decide +kernel), List.mem_of_getElem? (i := 726) (by decide +kernel)⟩
def lw_privs_1 : List (MethodName × Nat) := [(⟨"TruthCord$Reader", "takeRun", "()Z"⟩, 8), (⟨"TruthCord$Valley", "takeLine", "(LTruthCord$Reader;)Z"⟩, 14), (⟨"TruthCord$Valley", "takeWho", "(LTruthCord$Reader;)Z"⟩, 14), (⟨"TruthCord$Valley", "takeNewName", "(LTruthCord$Reader;)Z"⟩, 14), (⟨"TruthCord$Valley", "takeFact", "(LTruthCord$Reader;)Z"⟩, 14), (⟨"TruthCord$Valley", "takeKnows", "(LTruthCord$Reader;)Z"⟩, 14), (⟨"TruthCord$Valley", "takeSince", "(LTruthCord$Reader;)Z"⟩, 14), (⟨"TruthCord$Valley", "takeAsks", "(LTruthCord$Reader;)Z"⟩, 14), (⟨"TruthCord$Valley", "takeSetting", "(LTruthCord$Reader;I)Z"⟩, 14), (⟨"TruthCord", "noteReading", "()V"⟩, 17), (⟨"TruthCord", "refusedAt", "()I"⟩, 17), (⟨"TruthCord", "judgeAnew", "()V"⟩, 17), (⟨"TruthCord$Ledger", "clear", "()V"⟩, 17), (⟨"TruthCord$Ledger", "judgeLine", "(I)I"⟩, 17), (⟨"TruthCord$Ledger", "whyWrong", "(III)I"⟩, 17), (⟨"TruthCord$Ledger", "lie", "(I)V"⟩, 17)]
theorem lw_r1 : ∀ q ∈ lw_privs_1, lw_okq q := List.forall_mem_cons.mpr ⟨lw_p0, List.forall_mem_cons.mpr ⟨lw_p1, List.forall_mem_cons.mpr ⟨lw_p2, List.forall_mem_cons.mpr ⟨lw_p3, List.forall_mem_cons.mpr ⟨lw_p4, List.forall_mem_cons.mpr ⟨lw_p5, List.forall_mem_cons.mpr ⟨lw_p6, List.forall_mem_cons.mpr ⟨lw_p7, List.forall_mem_cons.mpr ⟨lw_p8, List.forall_mem_cons.mpr ⟨lw_p9, List.forall_mem_cons.mpr ⟨lw_p10, List.forall_mem_cons.mpr ⟨lw_p11, List.forall_mem_cons.mpr ⟨lw_p12, List.forall_mem_cons.mpr ⟨lw_p13, List.forall_mem_cons.mpr ⟨lw_p14, List.forall_mem_cons.mpr ⟨lw_p15, fun _ h => absurd h List.not_mem_nil⟩⟩⟩⟩⟩⟩⟩⟩⟩⟩⟩⟩⟩⟩⟩⟩
theorem lw_p16 : lw_okq (⟨"TruthCord$Ledger", "owe", "(III)V"⟩, 17) := ⟨⟨by decide +kernel, by decide +kernel⟩, List.mem_of_getElem? (i := 303) (by decide +kernel), List.mem_of_getElem? (i := 738) (by decide +kernel), List.mem_of_getElem? (i := 739) (by decide +kernel)⟩
theorem lw_p17 : lw_okq (⟨"TruthCord$Ledger", "tell", "(IIII)V"⟩, 17) := ⟨⟨by decide +kernel, by decide +kernel⟩, List.mem_of_getElem? (i := 303) (by decide +kernel), List.mem_of_getElem? (i := 742) (by decide +kernel), List.mem_of_getElem? (i := 743) (by decide +kernel)⟩
theorem lw_p18 : lw_okq (⟨"TruthCord$Ledger", "knownToOthers", "(I)I"⟩, 17) := ⟨⟨by decide +kernel, by decide +kernel⟩, List.mem_of_getElem? (i := 303) (by decide +kernel), List.mem_of_getElem? (i := 754) (by decide +kernel), List.mem_of_getElem? (i := 755) (by decide +kernel)⟩
theorem lw_p19 : lw_okq (⟨"TruthCord$Ledger", "pay", "(III)V"⟩, 17) := ⟨⟨by decide +kernel, by decide +kernel⟩, List.mem_of_getElem? (i := 303) (by decide +kernel), List.mem_of_getElem? (i := 758) (by decide +kernel), List.mem_of_getElem? (i := 759) (by decide +kernel)⟩
theorem lw_p20 : lw_okq (⟨"TruthCord$Ledger", "learn", "(III)V"⟩, 17) := ⟨⟨by decide +kernel, by decide +kernel⟩, List.mem_of_getElem? (i := 303) (by decide +kernel), List.mem_of_getElem? (i := 762) (by decide +kernel), List.mem_of_getElem? (i := 763) (by decide +kernel)⟩
theorem lw_p21 : lw_okq (⟨"TruthCord$Ledger", "grown", "(I)I"⟩, 17) := ⟨⟨by decide +kernel, by decide +kernel⟩, List.mem_of_getElem? (i := 303) (by decide +kernel), List.mem_of_getElem? (i := 770) (by decide +kernel), List.mem_of_getElem? (i := 771) (by decide +kernel)⟩
theorem lw_p22 : lw_okq (⟨"TruthCord$Book", "takeLine", "(LTruthCord$Reader;LTruthCord$Valley;)Z"⟩, 9) := ⟨⟨by decide +kernel, by decide +kernel⟩, List.mem_of_getElem? (i := 227) (by decide +kernel), List.mem_of_getElem? (i := 797) (by decide +kernel), List.mem_of_getElem? (i := 798) (by decide +kernel)⟩
theorem lw_p23 : lw_okq (⟨"TruthCord$Book", "takeDay", "(LTruthCord$Reader;)Z"⟩, 9) := ⟨⟨by decide +kernel, by decide +kernel⟩, List.mem_of_getElem? (i := 227) (by decide +kernel), List.mem_of_getElem? (i := 802) (by decide +kernel), List.mem_of_getElem? (i := 803) (by decide +kernel)⟩
theorem lw_p24 : lw_okq (⟨"TruthCord$Book", "addDay", "(I)V"⟩, 9) := ⟨⟨by decide +kernel, by decide +kernel⟩, List.mem_of_getElem? (i := 227) (by decide +kernel), List.mem_of_getElem? (i := 809) (by decide +kernel), List.mem_of_getElem? (i := 810) (by decide +kernel)⟩
theorem lw_p25 : lw_okq (⟨"TruthCord$Book", "add", "(IIIIII)V"⟩, 9) := ⟨⟨by decide +kernel, by decide +kernel⟩, List.mem_of_getElem? (i := 227) (by decide +kernel), List.mem_of_getElem? (i := 813) (by decide +kernel), List.mem_of_getElem? (i := 814) (by decide +kernel)⟩
theorem lw_p26 : lw_okq (⟨"TruthCord$Book", "takeDeed", "(LTruthCord$Reader;LTruthCord$Valley;I)Z"⟩, 9) := ⟨⟨by decide +kernel, by decide +kernel⟩, List.mem_of_getElem? (i := 227) (by decide +kernel), List.mem_of_getElem? (i := 819) (by decide +kernel), List.mem_of_getElem? (i := 820) (by decide +kernel)⟩
theorem lw_p27 : lw_okq (⟨"TruthCord$Book", "takeWith", "(LTruthCord$Reader;LTruthCord$Valley;III)Z"⟩, 9) := ⟨⟨by decide +kernel, by decide +kernel⟩, List.mem_of_getElem? (i := 227) (by decide +kernel), List.mem_of_getElem? (i := 824) (by decide +kernel), List.mem_of_getElem? (i := 825) (by decide +kernel)⟩
theorem lw_p28 : lw_okq (⟨"TruthCord$Feast", "takeDebts", "(LTruthCord$Ledger;)V"⟩, 7) := ⟨⟨by decide +kernel, by decide +kernel⟩, List.mem_of_getElem? (i := 384) (by decide +kernel), List.mem_of_getElem? (i := 903) (by decide +kernel), List.mem_of_getElem? (i := 904) (by decide +kernel)⟩
theorem lw_p29 : lw_okq (⟨"TruthCord$Feast", "tryFact", "(III)V"⟩, 7) := ⟨⟨by decide +kernel, by decide +kernel⟩, List.mem_of_getElem? (i := 384) (by decide +kernel), List.mem_of_getElem? (i := 920) (by decide +kernel), List.mem_of_getElem? (i := 921) (by decide +kernel)⟩
theorem lw_p30 : lw_okq (⟨"TruthCord$Feast", "unpaidBut", "(I)J"⟩, 7) := ⟨⟨by decide +kernel, by decide +kernel⟩, List.mem_of_getElem? (i := 384) (by decide +kernel), List.mem_of_getElem? (i := 930) (by decide +kernel), List.mem_of_getElem? (i := 931) (by decide +kernel)⟩
theorem lw_p31 : lw_okq (⟨"TruthCord$Feast", "keep", "(J)V"⟩, 7) := ⟨⟨by decide +kernel, by decide +kernel⟩, List.mem_of_getElem? (i := 384) (by decide +kernel), List.mem_of_getElem? (i := 936) (by decide +kernel), List.mem_of_getElem? (i := 937) (by decide +kernel)⟩
def lw_privs_2 : List (MethodName × Nat) := [(⟨"TruthCord$Ledger", "owe", "(III)V"⟩, 17), (⟨"TruthCord$Ledger", "tell", "(IIII)V"⟩, 17), (⟨"TruthCord$Ledger", "knownToOthers", "(I)I"⟩, 17), (⟨"TruthCord$Ledger", "pay", "(III)V"⟩, 17), (⟨"TruthCord$Ledger", "learn", "(III)V"⟩, 17), (⟨"TruthCord$Ledger", "grown", "(I)I"⟩, 17), (⟨"TruthCord$Book", "takeLine", "(LTruthCord$Reader;LTruthCord$Valley;)Z"⟩, 9), (⟨"TruthCord$Book", "takeDay", "(LTruthCord$Reader;)Z"⟩, 9), (⟨"TruthCord$Book", "addDay", "(I)V"⟩, 9), (⟨"TruthCord$Book", "add", "(IIIIII)V"⟩, 9), (⟨"TruthCord$Book", "takeDeed", "(LTruthCord$Reader;LTruthCord$Valley;I)Z"⟩, 9), (⟨"TruthCord$Book", "takeWith", "(LTruthCord$Reader;LTruthCord$Valley;III)Z"⟩, 9), (⟨"TruthCord$Feast", "takeDebts", "(LTruthCord$Ledger;)V"⟩, 7), (⟨"TruthCord$Feast", "tryFact", "(III)V"⟩, 7), (⟨"TruthCord$Feast", "unpaidBut", "(I)J"⟩, 7), (⟨"TruthCord$Feast", "keep", "(J)V"⟩, 7)]
theorem lw_r2 : ∀ q ∈ lw_privs_2, lw_okq q := List.forall_mem_cons.mpr ⟨lw_p16, List.forall_mem_cons.mpr ⟨lw_p17, List.forall_mem_cons.mpr ⟨lw_p18, List.forall_mem_cons.mpr ⟨lw_p19, List.forall_mem_cons.mpr ⟨lw_p20, List.forall_mem_cons.mpr ⟨lw_p21, List.forall_mem_cons.mpr ⟨lw_p22, List.forall_mem_cons.mpr ⟨lw_p23, List.forall_mem_cons.mpr ⟨lw_p24, List.forall_mem_cons.mpr ⟨lw_p25, List.forall_mem_cons.mpr ⟨lw_p26, List.forall_mem_cons.mpr ⟨lw_p27, List.forall_mem_cons.mpr ⟨lw_p28, List.forall_mem_cons.mpr ⟨lw_p29, List.forall_mem_cons.mpr ⟨lw_p30, List.forall_mem_cons.mpr ⟨lw_p31, fun _ h => absurd h List.not_mem_nil⟩⟩⟩⟩⟩⟩⟩⟩⟩⟩⟩⟩⟩⟩⟩⟩
theorem lw_p32 : lw_okq (⟨"TruthCord$Wants", "takeDues", "(LTruthCord$Ledger;I)I"⟩, 5) := ⟨⟨by decide +kernel, by decide +kernel⟩, List.mem_of_getElem? (i := 418) (by decide +kernel), List.mem_of_getElem? (i := 952) (by decide +kernel), List.mem_of_getElem? (i := 953) (by decide +kernel)⟩
theorem lw_p33 : lw_okq (⟨"TruthCord$Wants", "takeFact", "(LTruthCord$Ledger;IIZ)V"⟩, 5) := ⟨⟨by decide +kernel, by decide +kernel⟩, List.mem_of_getElem? (i := 418) (by decide +kernel), List.mem_of_getElem? (i := 957) (by decide +kernel), List.mem_of_getElem? (i := 958) (by decide +kernel)⟩
theorem lw_p34 : lw_okq (⟨"TruthCord$Tellings", "tryTurns", "(LTruthCord$Ledger;)I"⟩, 7) := ⟨⟨by decide +kernel, by decide +kernel⟩, List.mem_of_getElem? (i := 440) (by decide +kernel), List.mem_of_getElem? (i := 1029) (by decide +kernel), List.mem_of_getElem? (i := 1030) (by decide +kernel)⟩
theorem lw_p35 : lw_okq (⟨"TruthCord$Tellings", "nextTurns", "()Z"⟩, 7) := ⟨⟨by decide +kernel, by decide +kernel⟩, List.mem_of_getElem? (i := 440) (by decide +kernel), List.mem_of_getElem? (i := 1043) (by decide +kernel), List.mem_of_getElem? (i := 1044) (by decide +kernel)⟩
theorem lw_p36 : lw_okq (⟨"TruthCord$Tellings", "swap", "(II)V"⟩, 7) := ⟨⟨by decide +kernel, by decide +kernel⟩, List.mem_of_getElem? (i := 440) (by decide +kernel), List.mem_of_getElem? (i := 1047) (by decide +kernel), List.mem_of_getElem? (i := 1048) (by decide +kernel)⟩
theorem lw_p37 : lw_okq (⟨"TruthCord$Ledger", "isOpenAbout", "(III)Z"⟩, 17) := ⟨⟨by decide +kernel, by decide +kernel⟩, List.mem_of_getElem? (i := 303) (by decide +kernel), List.mem_of_getElem? (i := 1064) (by decide +kernel), List.mem_of_getElem? (i := 1065) (by decide +kernel)⟩
theorem lw_p38 : lw_okq (⟨"TruthCord", "takeKnots", "()Z"⟩, 17) := ⟨⟨by decide +kernel, by decide +kernel⟩, List.mem_of_getElem? (i := 27) (by decide +kernel), List.mem_of_getElem? (i := 1091) (by decide +kernel), List.mem_of_getElem? (i := 1092) (by decide +kernel)⟩
theorem lw_p39 : lw_okq (⟨"TruthCord$Sentence", "takeCond", "(LTruthCord$Reader;LTruthCord$Valley;I)Z"⟩, 6) := ⟨⟨by decide +kernel, by decide +kernel⟩, List.mem_of_getElem? (i := 277) (by decide +kernel), List.mem_of_getElem? (i := 1131) (by decide +kernel), List.mem_of_getElem? (i := 1132) (by decide +kernel)⟩
theorem lw_p40 : lw_okq (⟨"TruthCord$Sentence", "takeAll", "(LTruthCord$Reader;LTruthCord$Valley;I)Z"⟩, 6) := ⟨⟨by decide +kernel, by decide +kernel⟩, List.mem_of_getElem? (i := 277) (by decide +kernel), List.mem_of_getElem? (i := 1135) (by decide +kernel), List.mem_of_getElem? (i := 1136) (by decide +kernel)⟩
theorem lw_p41 : lw_okq (⟨"TruthCord$Sentence", "takeOne", "(LTruthCord$Reader;LTruthCord$Valley;I)Z"⟩, 6) := ⟨⟨by decide +kernel, by decide +kernel⟩, List.mem_of_getElem? (i := 277) (by decide +kernel), List.mem_of_getElem? (i := 1139) (by decide +kernel), List.mem_of_getElem? (i := 1140) (by decide +kernel)⟩
theorem lw_p42 : lw_okq (⟨"TruthCord$Sentence", "takePlain", "(LTruthCord$Reader;LTruthCord$Valley;I)Z"⟩, 6) := ⟨⟨by decide +kernel, by decide +kernel⟩, List.mem_of_getElem? (i := 277) (by decide +kernel), List.mem_of_getElem? (i := 1146) (by decide +kernel), List.mem_of_getElem? (i := 1147) (by decide +kernel)⟩
theorem lw_p43 : lw_okq (⟨"TruthCord$Sentence", "addStep", "(III)V"⟩, 6) := ⟨⟨by decide +kernel, by decide +kernel⟩, List.mem_of_getElem? (i := 277) (by decide +kernel), List.mem_of_getElem? (i := 1152) (by decide +kernel), List.mem_of_getElem? (i := 1153) (by decide +kernel)⟩
theorem lw_p44 : lw_okq (⟨"TruthCord$Sentence", "plainFor", "(LTruthCord$Ledger;I)I"⟩, 6) := ⟨⟨by decide +kernel, by decide +kernel⟩, List.mem_of_getElem? (i := 277) (by decide +kernel), List.mem_of_getElem? (i := 1169) (by decide +kernel), List.mem_of_getElem? (i := 1170) (by decide +kernel)⟩
theorem lw_p45 : lw_okq (⟨"TruthCord$Sentence", "isPlainOf", "(LTruthCord$Ledger;II)Z"⟩, 6) := ⟨⟨by decide +kernel, by decide +kernel⟩, List.mem_of_getElem? (i := 277) (by decide +kernel), List.mem_of_getElem? (i := 1173) (by decide +kernel), List.mem_of_getElem? (i := 1174) (by decide +kernel)⟩
theorem lw_p46 : lw_okq (⟨"java/lang/Throwable", "fillInStackTrace", "(I)Ljava/lang/Throwable;"⟩, 6) := ⟨⟨by decide +kernel, by decide +kernel⟩, List.mem_of_getElem? (i := 1249) (by decide +kernel), List.mem_of_getElem? (i := 1247) (by decide +kernel), List.mem_of_getElem? (i := 1248) (by decide +kernel)⟩
theorem lw_p47 : lw_okq (⟨"TruthCordModel", "four", "(I)V"⟩, 72) := ⟨⟨by decide +kernel, by decide +kernel⟩, List.mem_of_getElem? (i := 1311) (by decide +kernel), List.mem_of_getElem? (i := 1309) (by decide +kernel), List.mem_of_getElem? (i := 1310) (by decide +kernel)⟩
def lw_privs_3 : List (MethodName × Nat) := [(⟨"TruthCord$Wants", "takeDues", "(LTruthCord$Ledger;I)I"⟩, 5), (⟨"TruthCord$Wants", "takeFact", "(LTruthCord$Ledger;IIZ)V"⟩, 5), (⟨"TruthCord$Tellings", "tryTurns", "(LTruthCord$Ledger;)I"⟩, 7), (⟨"TruthCord$Tellings", "nextTurns", "()Z"⟩, 7), (⟨"TruthCord$Tellings", "swap", "(II)V"⟩, 7), (⟨"TruthCord$Ledger", "isOpenAbout", "(III)Z"⟩, 17), (⟨"TruthCord", "takeKnots", "()Z"⟩, 17), (⟨"TruthCord$Sentence", "takeCond", "(LTruthCord$Reader;LTruthCord$Valley;I)Z"⟩, 6), (⟨"TruthCord$Sentence", "takeAll", "(LTruthCord$Reader;LTruthCord$Valley;I)Z"⟩, 6), (⟨"TruthCord$Sentence", "takeOne", "(LTruthCord$Reader;LTruthCord$Valley;I)Z"⟩, 6), (⟨"TruthCord$Sentence", "takePlain", "(LTruthCord$Reader;LTruthCord$Valley;I)Z"⟩, 6), (⟨"TruthCord$Sentence", "addStep", "(III)V"⟩, 6), (⟨"TruthCord$Sentence", "plainFor", "(LTruthCord$Ledger;I)I"⟩, 6), (⟨"TruthCord$Sentence", "isPlainOf", "(LTruthCord$Ledger;II)Z"⟩, 6), (⟨"java/lang/Throwable", "fillInStackTrace", "(I)Ljava/lang/Throwable;"⟩, 6), (⟨"TruthCordModel", "four", "(I)V"⟩, 72)]
theorem lw_r3 : ∀ q ∈ lw_privs_3, lw_okq q := List.forall_mem_cons.mpr ⟨lw_p32, List.forall_mem_cons.mpr ⟨lw_p33, List.forall_mem_cons.mpr ⟨lw_p34, List.forall_mem_cons.mpr ⟨lw_p35, List.forall_mem_cons.mpr ⟨lw_p36, List.forall_mem_cons.mpr ⟨lw_p37, List.forall_mem_cons.mpr ⟨lw_p38, List.forall_mem_cons.mpr ⟨lw_p39, List.forall_mem_cons.mpr ⟨lw_p40, List.forall_mem_cons.mpr ⟨lw_p41, List.forall_mem_cons.mpr ⟨lw_p42, List.forall_mem_cons.mpr ⟨lw_p43, List.forall_mem_cons.mpr ⟨lw_p44, List.forall_mem_cons.mpr ⟨lw_p45, List.forall_mem_cons.mpr ⟨lw_p46, List.forall_mem_cons.mpr ⟨lw_p47, fun _ h => absurd h List.not_mem_nil⟩⟩⟩⟩⟩⟩⟩⟩⟩⟩⟩⟩⟩⟩⟩⟩
theorem lw_p48 : lw_okq (⟨"TruthCordModel", "plainValley", "()V"⟩, 72) := ⟨⟨by decide +kernel, by decide +kernel⟩, List.mem_of_getElem? (i := 1311) (by decide +kernel), List.mem_of_getElem? (i := 1350) (by decide +kernel), List.mem_of_getElem? (i := 1351) (by decide +kernel)⟩
theorem lw_p49 : lw_okq (⟨"TruthCordModel", "taken", "(I)V"⟩, 72) := ⟨⟨by decide +kernel, by decide +kernel⟩, List.mem_of_getElem? (i := 1311) (by decide +kernel), List.mem_of_getElem? (i := 1576) (by decide +kernel), List.mem_of_getElem? (i := 1577) (by decide +kernel)⟩
theorem lw_p50 : lw_okq (⟨"TruthCordModel", "next", "()V"⟩, 72) := ⟨⟨by decide +kernel, by decide +kernel⟩, List.mem_of_getElem? (i := 1311) (by decide +kernel), List.mem_of_getElem? (i := 1580) (by decide +kernel), List.mem_of_getElem? (i := 1581) (by decide +kernel)⟩
theorem lw_p51 : lw_okq (⟨"TruthCordModel", "peek", "()I"⟩, 72) := ⟨⟨by decide +kernel, by decide +kernel⟩, List.mem_of_getElem? (i := 1311) (by decide +kernel), List.mem_of_getElem? (i := 1584) (by decide +kernel), List.mem_of_getElem? (i := 1585) (by decide +kernel)⟩
theorem lw_p52 : lw_okq (⟨"TruthCordModel", "valleyLine", "()Z"⟩, 72) := ⟨⟨by decide +kernel, by decide +kernel⟩, List.mem_of_getElem? (i := 1311) (by decide +kernel), List.mem_of_getElem? (i := 1594) (by decide +kernel), List.mem_of_getElem? (i := 1595) (by decide +kernel)⟩
theorem lw_p53 : lw_okq (⟨"TruthCordModel", "isWord", "(J)Z"⟩, 72) := ⟨⟨by decide +kernel, by decide +kernel⟩, List.mem_of_getElem? (i := 1311) (by decide +kernel), List.mem_of_getElem? (i := 1598) (by decide +kernel), List.mem_of_getElem? (i := 1599) (by decide +kernel)⟩
theorem lw_p54 : lw_okq (⟨"TruthCordModel", "bad", "(I)Z"⟩, 72) := ⟨⟨by decide +kernel, by decide +kernel⟩, List.mem_of_getElem? (i := 1311) (by decide +kernel), List.mem_of_getElem? (i := 1602) (by decide +kernel), List.mem_of_getElem? (i := 1603) (by decide +kernel)⟩
theorem lw_p55 : lw_okq (⟨"TruthCordModel", "fresh", "(I)Z"⟩, 72) := ⟨⟨by decide +kernel, by decide +kernel⟩, List.mem_of_getElem? (i := 1311) (by decide +kernel), List.mem_of_getElem? (i := 1606) (by decide +kernel), List.mem_of_getElem? (i := 1607) (by decide +kernel)⟩
theorem lw_p56 : lw_okq (⟨"TruthCordModel", "isName", "()Z"⟩, 72) := ⟨⟨by decide +kernel, by decide +kernel⟩, List.mem_of_getElem? (i := 1311) (by decide +kernel), List.mem_of_getElem? (i := 1610) (by decide +kernel), List.mem_of_getElem? (i := 1611) (by decide +kernel)⟩
theorem lw_p57 : lw_okq (⟨"TruthCordModel", "find", "(II)I"⟩, 72) := ⟨⟨by decide +kernel, by decide +kernel⟩, List.mem_of_getElem? (i := 1311) (by decide +kernel), List.mem_of_getElem? (i := 1614) (by decide +kernel), List.mem_of_getElem? (i := 1615) (by decide +kernel)⟩
theorem lw_p58 : lw_okq (⟨"TruthCordModel", "readFact", "()Z"⟩, 72) := ⟨⟨by decide +kernel, by decide +kernel⟩, List.mem_of_getElem? (i := 1311) (by decide +kernel), List.mem_of_getElem? (i := 1618) (by decide +kernel), List.mem_of_getElem? (i := 1619) (by decide +kernel)⟩
theorem lw_p59 : lw_okq (⟨"TruthCordModel", "takes", "(II)Z"⟩, 72) := ⟨⟨by decide +kernel, by decide +kernel⟩, List.mem_of_getElem? (i := 1311) (by decide +kernel), List.mem_of_getElem? (i := 1622) (by decide +kernel), List.mem_of_getElem? (i := 1623) (by decide +kernel)⟩
theorem lw_p60 : lw_okq (⟨"TruthCordModel", "takesName", "(II)Z"⟩, 72) := ⟨⟨by decide +kernel, by decide +kernel⟩, List.mem_of_getElem? (i := 1311) (by decide +kernel), List.mem_of_getElem? (i := 1629) (by decide +kernel), List.mem_of_getElem? (i := 1630) (by decide +kernel)⟩
theorem lw_p61 : lw_okq (⟨"TruthCordModel", "readKnows", "()Z"⟩, 72) := ⟨⟨by decide +kernel, by decide +kernel⟩, List.mem_of_getElem? (i := 1311) (by decide +kernel), List.mem_of_getElem? (i := 1633) (by decide +kernel), List.mem_of_getElem? (i := 1634) (by decide +kernel)⟩
theorem lw_p62 : lw_okq (⟨"TruthCordModel", "readSince", "()Z"⟩, 72) := ⟨⟨by decide +kernel, by decide +kernel⟩, List.mem_of_getElem? (i := 1311) (by decide +kernel), List.mem_of_getElem? (i := 1640) (by decide +kernel), List.mem_of_getElem? (i := 1641) (by decide +kernel)⟩
theorem lw_p63 : lw_okq (⟨"TruthCordModel", "readAsks", "()Z"⟩, 72) := ⟨⟨by decide +kernel, by decide +kernel⟩, List.mem_of_getElem? (i := 1311) (by decide +kernel), List.mem_of_getElem? (i := 1644) (by decide +kernel), List.mem_of_getElem? (i := 1645) (by decide +kernel)⟩
def lw_privs_4 : List (MethodName × Nat) := [(⟨"TruthCordModel", "plainValley", "()V"⟩, 72), (⟨"TruthCordModel", "taken", "(I)V"⟩, 72), (⟨"TruthCordModel", "next", "()V"⟩, 72), (⟨"TruthCordModel", "peek", "()I"⟩, 72), (⟨"TruthCordModel", "valleyLine", "()Z"⟩, 72), (⟨"TruthCordModel", "isWord", "(J)Z"⟩, 72), (⟨"TruthCordModel", "bad", "(I)Z"⟩, 72), (⟨"TruthCordModel", "fresh", "(I)Z"⟩, 72), (⟨"TruthCordModel", "isName", "()Z"⟩, 72), (⟨"TruthCordModel", "find", "(II)I"⟩, 72), (⟨"TruthCordModel", "readFact", "()Z"⟩, 72), (⟨"TruthCordModel", "takes", "(II)Z"⟩, 72), (⟨"TruthCordModel", "takesName", "(II)Z"⟩, 72), (⟨"TruthCordModel", "readKnows", "()Z"⟩, 72), (⟨"TruthCordModel", "readSince", "()Z"⟩, 72), (⟨"TruthCordModel", "readAsks", "()Z"⟩, 72)]
theorem lw_r4 : ∀ q ∈ lw_privs_4, lw_okq q := List.forall_mem_cons.mpr ⟨lw_p48, List.forall_mem_cons.mpr ⟨lw_p49, List.forall_mem_cons.mpr ⟨lw_p50, List.forall_mem_cons.mpr ⟨lw_p51, List.forall_mem_cons.mpr ⟨lw_p52, List.forall_mem_cons.mpr ⟨lw_p53, List.forall_mem_cons.mpr ⟨lw_p54, List.forall_mem_cons.mpr ⟨lw_p55, List.forall_mem_cons.mpr ⟨lw_p56, List.forall_mem_cons.mpr ⟨lw_p57, List.forall_mem_cons.mpr ⟨lw_p58, List.forall_mem_cons.mpr ⟨lw_p59, List.forall_mem_cons.mpr ⟨lw_p60, List.forall_mem_cons.mpr ⟨lw_p61, List.forall_mem_cons.mpr ⟨lw_p62, List.forall_mem_cons.mpr ⟨lw_p63, fun _ h => absurd h List.not_mem_nil⟩⟩⟩⟩⟩⟩⟩⟩⟩⟩⟩⟩⟩⟩⟩⟩
theorem lw_p64 : lw_okq (⟨"TruthCordModel", "once", "(III)Z"⟩, 72) := ⟨⟨by decide +kernel, by decide +kernel⟩, List.mem_of_getElem? (i := 1311) (by decide +kernel), List.mem_of_getElem? (i := 1648) (by decide +kernel), List.mem_of_getElem? (i := 1649) (by decide +kernel)⟩
theorem lw_p65 : lw_okq (⟨"TruthCordModel", "sign", "(I)Z"⟩, 72) := ⟨⟨by decide +kernel, by decide +kernel⟩, List.mem_of_getElem? (i := 1311) (by decide +kernel), List.mem_of_getElem? (i := 1652) (by decide +kernel), List.mem_of_getElem? (i := 1653) (by decide +kernel)⟩
theorem lw_p66 : lw_okq (⟨"TruthCordModel", "isSign", "(I)Z"⟩, 72) := ⟨⟨by decide +kernel, by decide +kernel⟩, List.mem_of_getElem? (i := 1311) (by decide +kernel), List.mem_of_getElem? (i := 1656) (by decide +kernel), List.mem_of_getElem? (i := 1657) (by decide +kernel)⟩
theorem lw_p67 : lw_okq (⟨"TruthCordModel", "isFact", "(I)Z"⟩, 72) := ⟨⟨by decide +kernel, by decide +kernel⟩, List.mem_of_getElem? (i := 1311) (by decide +kernel), List.mem_of_getElem? (i := 1668) (by decide +kernel), List.mem_of_getElem? (i := 1669) (by decide +kernel)⟩
theorem lw_p68 : lw_okq (⟨"TruthCordModel", "throwsIf", "(Z)Z"⟩, 72) := ⟨⟨by decide +kernel, by decide +kernel⟩, List.mem_of_getElem? (i := 1311) (by decide +kernel), List.mem_of_getElem? (i := 1672) (by decide +kernel), List.mem_of_getElem? (i := 1673) (by decide +kernel)⟩
theorem lw_p69 : lw_okq (⟨"TruthCordModel", "bookLine", "()Z"⟩, 72) := ⟨⟨by decide +kernel, by decide +kernel⟩, List.mem_of_getElem? (i := 1311) (by decide +kernel), List.mem_of_getElem? (i := 1680) (by decide +kernel), List.mem_of_getElem? (i := 1681) (by decide +kernel)⟩
theorem lw_p70 : lw_okq (⟨"TruthCordModel", "put", "(IIIIII)V"⟩, 72) := ⟨⟨by decide +kernel, by decide +kernel⟩, List.mem_of_getElem? (i := 1311) (by decide +kernel), List.mem_of_getElem? (i := 1684) (by decide +kernel), List.mem_of_getElem? (i := 1685) (by decide +kernel)⟩
theorem lw_p71 : lw_okq (⟨"TruthCordModel", "withOrder", "(II)V"⟩, 72) := ⟨⟨by decide +kernel, by decide +kernel⟩, List.mem_of_getElem? (i := 1311) (by decide +kernel), List.mem_of_getElem? (i := 1691) (by decide +kernel), List.mem_of_getElem? (i := 1692) (by decide +kernel)⟩
theorem lw_p72 : lw_okq (⟨"TruthCordModel", "keepBook", "()V"⟩, 72) := ⟨⟨by decide +kernel, by decide +kernel⟩, List.mem_of_getElem? (i := 1311) (by decide +kernel), List.mem_of_getElem? (i := 1695) (by decide +kernel), List.mem_of_getElem? (i := 1696) (by decide +kernel)⟩
theorem lw_p73 : lw_okq (⟨"TruthCordModel", "draw", "(I)I"⟩, 72) := ⟨⟨by decide +kernel, by decide +kernel⟩, List.mem_of_getElem? (i := 1311) (by decide +kernel), List.mem_of_getElem? (i := 1703) (by decide +kernel), List.mem_of_getElem? (i := 1704) (by decide +kernel)⟩
theorem lw_p74 : lw_okq (⟨"TruthCordModel", "isWho", "(I)Z"⟩, 72) := ⟨⟨by decide +kernel, by decide +kernel⟩, List.mem_of_getElem? (i := 1311) (by decide +kernel), List.mem_of_getElem? (i := 1716) (by decide +kernel), List.mem_of_getElem? (i := 1717) (by decide +kernel)⟩
theorem lw_p75 : lw_okq (⟨"TruthCordModel", "run", "(I)V"⟩, 72) := ⟨⟨by decide +kernel, by decide +kernel⟩, List.mem_of_getElem? (i := 1311) (by decide +kernel), List.mem_of_getElem? (i := 1720) (by decide +kernel), List.mem_of_getElem? (i := 1721) (by decide +kernel)⟩
theorem lw_p76 : lw_okq (⟨"TruthCordModel", "begin", "()V"⟩, 72) := ⟨⟨by decide +kernel, by decide +kernel⟩, List.mem_of_getElem? (i := 1311) (by decide +kernel), List.mem_of_getElem? (i := 1724) (by decide +kernel), List.mem_of_getElem? (i := 1725) (by decide +kernel)⟩
theorem lw_p77 : lw_okq (⟨"TruthCordModel", "follows", "(I)I"⟩, 72) := ⟨⟨by decide +kernel, by decide +kernel⟩, List.mem_of_getElem? (i := 1311) (by decide +kernel), List.mem_of_getElem? (i := 1728) (by decide +kernel), List.mem_of_getElem? (i := 1729) (by decide +kernel)⟩
theorem lw_p78 : lw_okq (⟨"TruthCordModel", "does", "(I)I"⟩, 72) := ⟨⟨by decide +kernel, by decide +kernel⟩, List.mem_of_getElem? (i := 1311) (by decide +kernel), List.mem_of_getElem? (i := 1732) (by decide +kernel), List.mem_of_getElem? (i := 1733) (by decide +kernel)⟩
theorem lw_p79 : lw_okq (⟨"TruthCordModel", "whyOf", "(IIIII)I"⟩, 72) := ⟨⟨by decide +kernel, by decide +kernel⟩, List.mem_of_getElem? (i := 1311) (by decide +kernel), List.mem_of_getElem? (i := 1736) (by decide +kernel), List.mem_of_getElem? (i := 1737) (by decide +kernel)⟩
def lw_privs_5 : List (MethodName × Nat) := [(⟨"TruthCordModel", "once", "(III)Z"⟩, 72), (⟨"TruthCordModel", "sign", "(I)Z"⟩, 72), (⟨"TruthCordModel", "isSign", "(I)Z"⟩, 72), (⟨"TruthCordModel", "isFact", "(I)Z"⟩, 72), (⟨"TruthCordModel", "throwsIf", "(Z)Z"⟩, 72), (⟨"TruthCordModel", "bookLine", "()Z"⟩, 72), (⟨"TruthCordModel", "put", "(IIIIII)V"⟩, 72), (⟨"TruthCordModel", "withOrder", "(II)V"⟩, 72), (⟨"TruthCordModel", "keepBook", "()V"⟩, 72), (⟨"TruthCordModel", "draw", "(I)I"⟩, 72), (⟨"TruthCordModel", "isWho", "(I)Z"⟩, 72), (⟨"TruthCordModel", "run", "(I)V"⟩, 72), (⟨"TruthCordModel", "begin", "()V"⟩, 72), (⟨"TruthCordModel", "follows", "(I)I"⟩, 72), (⟨"TruthCordModel", "does", "(I)I"⟩, 72), (⟨"TruthCordModel", "whyOf", "(IIIII)I"⟩, 72)]
theorem lw_r5 : ∀ q ∈ lw_privs_5, lw_okq q := List.forall_mem_cons.mpr ⟨lw_p64, List.forall_mem_cons.mpr ⟨lw_p65, List.forall_mem_cons.mpr ⟨lw_p66, List.forall_mem_cons.mpr ⟨lw_p67, List.forall_mem_cons.mpr ⟨lw_p68, List.forall_mem_cons.mpr ⟨lw_p69, List.forall_mem_cons.mpr ⟨lw_p70, List.forall_mem_cons.mpr ⟨lw_p71, List.forall_mem_cons.mpr ⟨lw_p72, List.forall_mem_cons.mpr ⟨lw_p73, List.forall_mem_cons.mpr ⟨lw_p74, List.forall_mem_cons.mpr ⟨lw_p75, List.forall_mem_cons.mpr ⟨lw_p76, List.forall_mem_cons.mpr ⟨lw_p77, List.forall_mem_cons.mpr ⟨lw_p78, List.forall_mem_cons.mpr ⟨lw_p79, fun _ h => absurd h List.not_mem_nil⟩⟩⟩⟩⟩⟩⟩⟩⟩⟩⟩⟩⟩⟩⟩⟩
theorem lw_p80 : lw_okq (⟨"TruthCordModel", "owes", "(IIIII)V"⟩, 72) := ⟨⟨by decide +kernel, by decide +kernel⟩, List.mem_of_getElem? (i := 1311) (by decide +kernel), List.mem_of_getElem? (i := 1740) (by decide +kernel), List.mem_of_getElem? (i := 1741) (by decide +kernel)⟩
theorem lw_p81 : lw_okq (⟨"TruthCordModel", "tells", "(IIII)V"⟩, 72) := ⟨⟨by decide +kernel, by decide +kernel⟩, List.mem_of_getElem? (i := 1311) (by decide +kernel), List.mem_of_getElem? (i := 1747) (by decide +kernel), List.mem_of_getElem? (i := 1748) (by decide +kernel)⟩
theorem lw_p82 : lw_okq (⟨"TruthCordModel", "worthOf", "(II)I"⟩, 72) := ⟨⟨by decide +kernel, by decide +kernel⟩, List.mem_of_getElem? (i := 1311) (by decide +kernel), List.mem_of_getElem? (i := 1751) (by decide +kernel), List.mem_of_getElem? (i := 1752) (by decide +kernel)⟩
theorem lw_p83 : lw_okq (⟨"TruthCordModel", "learns", "(III)V"⟩, 72) := ⟨⟨by decide +kernel, by decide +kernel⟩, List.mem_of_getElem? (i := 1311) (by decide +kernel), List.mem_of_getElem? (i := 1755) (by decide +kernel), List.mem_of_getElem? (i := 1756) (by decide +kernel)⟩
theorem lw_p84 : lw_okq (⟨"TruthCordModel", "isLate", "(I)Z"⟩, 72) := ⟨⟨by decide +kernel, by decide +kernel⟩, List.mem_of_getElem? (i := 1311) (by decide +kernel), List.mem_of_getElem? (i := 1771) (by decide +kernel), List.mem_of_getElem? (i := 1772) (by decide +kernel)⟩
theorem lw_p85 : lw_okq (⟨"TruthCordModel", "cameOf", "(II)I"⟩, 72) := ⟨⟨by decide +kernel, by decide +kernel⟩, List.mem_of_getElem? (i := 1311) (by decide +kernel), List.mem_of_getElem? (i := 1783) (by decide +kernel), List.mem_of_getElem? (i := 1784) (by decide +kernel)⟩
theorem lw_p86 : lw_okq (⟨"TruthCordModel", "owedAll", "()I"⟩, 72) := ⟨⟨by decide +kernel, by decide +kernel⟩, List.mem_of_getElem? (i := 1311) (by decide +kernel), List.mem_of_getElem? (i := 1791) (by decide +kernel), List.mem_of_getElem? (i := 1792) (by decide +kernel)⟩
theorem lw_p87 : lw_okq (⟨"TruthCordModel", "feasts", "()V"⟩, 72) := ⟨⟨by decide +kernel, by decide +kernel⟩, List.mem_of_getElem? (i := 1311) (by decide +kernel), List.mem_of_getElem? (i := 1799) (by decide +kernel), List.mem_of_getElem? (i := 1800) (by decide +kernel)⟩
theorem lw_p88 : lw_okq (⟨"TruthCordModel", "mayPay", "(II)Z"⟩, 72) := ⟨⟨by decide +kernel, by decide +kernel⟩, List.mem_of_getElem? (i := 1311) (by decide +kernel), List.mem_of_getElem? (i := 1803) (by decide +kernel), List.mem_of_getElem? (i := 1804) (by decide +kernel)⟩
theorem lw_p89 : lw_okq (⟨"TruthCordModel", "needed", "(IZ)Z"⟩, 72) := ⟨⟨by decide +kernel, by decide +kernel⟩, List.mem_of_getElem? (i := 1311) (by decide +kernel), List.mem_of_getElem? (i := 1816) (by decide +kernel), List.mem_of_getElem? (i := 1817) (by decide +kernel)⟩
theorem lw_p90 : lw_okq (⟨"TruthCordModel", "duesOf", "(I)V"⟩, 72) := ⟨⟨by decide +kernel, by decide +kernel⟩, List.mem_of_getElem? (i := 1311) (by decide +kernel), List.mem_of_getElem? (i := 1820) (by decide +kernel), List.mem_of_getElem? (i := 1821) (by decide +kernel)⟩
theorem lw_p91 : lw_okq (⟨"TruthCordModel", "price", "(II)I"⟩, 72) := ⟨⟨by decide +kernel, by decide +kernel⟩, List.mem_of_getElem? (i := 1311) (by decide +kernel), List.mem_of_getElem? (i := 1825) (by decide +kernel), List.mem_of_getElem? (i := 1826) (by decide +kernel)⟩
theorem lw_p92 : lw_okq (⟨"TruthCordModel", "canPay", "(II)Z"⟩, 72) := ⟨⟨by decide +kernel, by decide +kernel⟩, List.mem_of_getElem? (i := 1311) (by decide +kernel), List.mem_of_getElem? (i := 1829) (by decide +kernel), List.mem_of_getElem? (i := 1830) (by decide +kernel)⟩
theorem lw_p93 : lw_okq (⟨"TruthCordModel", "octet", "(I)I"⟩, 72) := ⟨⟨by decide +kernel, by decide +kernel⟩, List.mem_of_getElem? (i := 1311) (by decide +kernel), List.mem_of_getElem? (i := 1853) (by decide +kernel), List.mem_of_getElem? (i := 1854) (by decide +kernel)⟩
theorem lw_p94 : lw_okq (⟨"TruthCordModel", "lay", "(I)V"⟩, 72) := ⟨⟨by decide +kernel, by decide +kernel⟩, List.mem_of_getElem? (i := 1311) (by decide +kernel), List.mem_of_getElem? (i := 1873) (by decide +kernel), List.mem_of_getElem? (i := 1874) (by decide +kernel)⟩
theorem lw_p95 : lw_okq (⟨"TruthCordModel", "takesCord", "()Z"⟩, 72) := ⟨⟨by decide +kernel, by decide +kernel⟩, List.mem_of_getElem? (i := 1311) (by decide +kernel), List.mem_of_getElem? (i := 1881) (by decide +kernel), List.mem_of_getElem? (i := 1882) (by decide +kernel)⟩
def lw_privs_6 : List (MethodName × Nat) := [(⟨"TruthCordModel", "owes", "(IIIII)V"⟩, 72), (⟨"TruthCordModel", "tells", "(IIII)V"⟩, 72), (⟨"TruthCordModel", "worthOf", "(II)I"⟩, 72), (⟨"TruthCordModel", "learns", "(III)V"⟩, 72), (⟨"TruthCordModel", "isLate", "(I)Z"⟩, 72), (⟨"TruthCordModel", "cameOf", "(II)I"⟩, 72), (⟨"TruthCordModel", "owedAll", "()I"⟩, 72), (⟨"TruthCordModel", "feasts", "()V"⟩, 72), (⟨"TruthCordModel", "mayPay", "(II)Z"⟩, 72), (⟨"TruthCordModel", "needed", "(IZ)Z"⟩, 72), (⟨"TruthCordModel", "duesOf", "(I)V"⟩, 72), (⟨"TruthCordModel", "price", "(II)I"⟩, 72), (⟨"TruthCordModel", "canPay", "(II)Z"⟩, 72), (⟨"TruthCordModel", "octet", "(I)I"⟩, 72), (⟨"TruthCordModel", "lay", "(I)V"⟩, 72), (⟨"TruthCordModel", "takesCord", "()Z"⟩, 72)]
theorem lw_r6 : ∀ q ∈ lw_privs_6, lw_okq q := List.forall_mem_cons.mpr ⟨lw_p80, List.forall_mem_cons.mpr ⟨lw_p81, List.forall_mem_cons.mpr ⟨lw_p82, List.forall_mem_cons.mpr ⟨lw_p83, List.forall_mem_cons.mpr ⟨lw_p84, List.forall_mem_cons.mpr ⟨lw_p85, List.forall_mem_cons.mpr ⟨lw_p86, List.forall_mem_cons.mpr ⟨lw_p87, List.forall_mem_cons.mpr ⟨lw_p88, List.forall_mem_cons.mpr ⟨lw_p89, List.forall_mem_cons.mpr ⟨lw_p90, List.forall_mem_cons.mpr ⟨lw_p91, List.forall_mem_cons.mpr ⟨lw_p92, List.forall_mem_cons.mpr ⟨lw_p93, List.forall_mem_cons.mpr ⟨lw_p94, List.forall_mem_cons.mpr ⟨lw_p95, fun _ h => absurd h List.not_mem_nil⟩⟩⟩⟩⟩⟩⟩⟩⟩⟩⟩⟩⟩⟩⟩⟩
theorem lw_p96 : lw_okq (⟨"TruthCordModel", "readSeen", "()I"⟩, 72) := ⟨⟨by decide +kernel, by decide +kernel⟩, List.mem_of_getElem? (i := 1311) (by decide +kernel), List.mem_of_getElem? (i := 1885) (by decide +kernel), List.mem_of_getElem? (i := 1886) (by decide +kernel)⟩
theorem lw_p97 : lw_okq (⟨"TruthCordModel", "measure", "(I)V"⟩, 72) := ⟨⟨by decide +kernel, by decide +kernel⟩, List.mem_of_getElem? (i := 1311) (by decide +kernel), List.mem_of_getElem? (i := 1897) (by decide +kernel), List.mem_of_getElem? (i := 1898) (by decide +kernel)⟩
theorem lw_p98 : lw_okq (⟨"TruthCordModel", "cond", "()Z"⟩, 72) := ⟨⟨by decide +kernel, by decide +kernel⟩, List.mem_of_getElem? (i := 1311) (by decide +kernel), List.mem_of_getElem? (i := 1909) (by decide +kernel), List.mem_of_getElem? (i := 1910) (by decide +kernel)⟩
theorem lw_p99 : lw_okq (⟨"TruthCordModel", "one", "()Z"⟩, 72) := ⟨⟨by decide +kernel, by decide +kernel⟩, List.mem_of_getElem? (i := 1311) (by decide +kernel), List.mem_of_getElem? (i := 1913) (by decide +kernel), List.mem_of_getElem? (i := 1914) (by decide +kernel)⟩
theorem lw_p100 : lw_okq (⟨"TruthCordModel", "atom", "()I"⟩, 72) := ⟨⟨by decide +kernel, by decide +kernel⟩, List.mem_of_getElem? (i := 1311) (by decide +kernel), List.mem_of_getElem? (i := 1917) (by decide +kernel), List.mem_of_getElem? (i := 1918) (by decide +kernel)⟩
theorem lw_p101 : lw_okq (⟨"TruthCordModel", "opened", "()I"⟩, 72) := ⟨⟨by decide +kernel, by decide +kernel⟩, List.mem_of_getElem? (i := 1311) (by decide +kernel), List.mem_of_getElem? (i := 1921) (by decide +kernel), List.mem_of_getElem? (i := 1922) (by decide +kernel)⟩
theorem lw_p102 : lw_okq (⟨"TruthCordModel", "asks", "(I)Z"⟩, 72) := ⟨⟨by decide +kernel, by decide +kernel⟩, List.mem_of_getElem? (i := 1311) (by decide +kernel), List.mem_of_getElem? (i := 1925) (by decide +kernel), List.mem_of_getElem? (i := 1926) (by decide +kernel)⟩
theorem lw_p103 : lw_okq (⟨"TruthCordModel", "write", "(III)V"⟩, 72) := ⟨⟨by decide +kernel, by decide +kernel⟩, List.mem_of_getElem? (i := 1311) (by decide +kernel), List.mem_of_getElem? (i := 1929) (by decide +kernel), List.mem_of_getElem? (i := 1930) (by decide +kernel)⟩
theorem lw_p104 : lw_okq (⟨"TruthCordModel", "writeDown", "(I)V"⟩, 72) := ⟨⟨by decide +kernel, by decide +kernel⟩, List.mem_of_getElem? (i := 1311) (by decide +kernel), List.mem_of_getElem? (i := 1933) (by decide +kernel), List.mem_of_getElem? (i := 1934) (by decide +kernel)⟩
theorem lw_p105 : lw_okq (⟨"TruthCordModel", "isOpen", "()Z"⟩, 72) := ⟨⟨by decide +kernel, by decide +kernel⟩, List.mem_of_getElem? (i := 1311) (by decide +kernel), List.mem_of_getElem? (i := 1940) (by decide +kernel), List.mem_of_getElem? (i := 1941) (by decide +kernel)⟩
theorem lw_p106 : lw_okq (⟨"TruthCordModel", "isSaid", "(I)Z"⟩, 72) := ⟨⟨by decide +kernel, by decide +kernel⟩, List.mem_of_getElem? (i := 1311) (by decide +kernel), List.mem_of_getElem? (i := 1948) (by decide +kernel), List.mem_of_getElem? (i := 1949) (by decide +kernel)⟩
theorem lw_p107 : lw_okq (⟨"TruthCordModel", "so", "(IIII)Z"⟩, 72) := ⟨⟨by decide +kernel, by decide +kernel⟩, List.mem_of_getElem? (i := 1311) (by decide +kernel), List.mem_of_getElem? (i := 1952) (by decide +kernel), List.mem_of_getElem? (i := 1953) (by decide +kernel)⟩
def lw_privs_7 : List (MethodName × Nat) := [(⟨"TruthCordModel", "readSeen", "()I"⟩, 72), (⟨"TruthCordModel", "measure", "(I)V"⟩, 72), (⟨"TruthCordModel", "cond", "()Z"⟩, 72), (⟨"TruthCordModel", "one", "()Z"⟩, 72), (⟨"TruthCordModel", "atom", "()I"⟩, 72), (⟨"TruthCordModel", "opened", "()I"⟩, 72), (⟨"TruthCordModel", "asks", "(I)Z"⟩, 72), (⟨"TruthCordModel", "write", "(III)V"⟩, 72), (⟨"TruthCordModel", "writeDown", "(I)V"⟩, 72), (⟨"TruthCordModel", "isOpen", "()Z"⟩, 72), (⟨"TruthCordModel", "isSaid", "(I)Z"⟩, 72), (⟨"TruthCordModel", "so", "(IIII)Z"⟩, 72)]
theorem lw_r7 : ∀ q ∈ lw_privs_7, lw_okq q := List.forall_mem_cons.mpr ⟨lw_p96, List.forall_mem_cons.mpr ⟨lw_p97, List.forall_mem_cons.mpr ⟨lw_p98, List.forall_mem_cons.mpr ⟨lw_p99, List.forall_mem_cons.mpr ⟨lw_p100, List.forall_mem_cons.mpr ⟨lw_p101, List.forall_mem_cons.mpr ⟨lw_p102, List.forall_mem_cons.mpr ⟨lw_p103, List.forall_mem_cons.mpr ⟨lw_p104, List.forall_mem_cons.mpr ⟨lw_p105, List.forall_mem_cons.mpr ⟨lw_p106, List.forall_mem_cons.mpr ⟨lw_p107, fun _ h => absurd h List.not_mem_nil⟩⟩⟩⟩⟩⟩⟩⟩⟩⟩⟩⟩
def lw_privs : List (MethodName × Nat) := lw_privs_1 ++ (lw_privs_2 ++ (lw_privs_3 ++ (lw_privs_4 ++ (lw_privs_5 ++ (lw_privs_6 ++ (lw_privs_7))))))
def lw_tbl : List Cond := k2_sels lw_privs ++ tables_1
theorem lw_privs_ok : ∀ q ∈ lw_privs, lw_okq q := by
  show ∀ q ∈ lw_privs_1 ++ (lw_privs_2 ++ (lw_privs_3 ++ (lw_privs_4 ++ (lw_privs_5 ++ (lw_privs_6 ++ (lw_privs_7)))))), lw_okq q
  exact List.forall_mem_append.mpr ⟨lw_r1, List.forall_mem_append.mpr ⟨lw_r2, List.forall_mem_append.mpr ⟨lw_r3, List.forall_mem_append.mpr ⟨lw_r4, List.forall_mem_append.mpr ⟨lw_r5, List.forall_mem_append.mpr ⟨lw_r6, lw_r7⟩⟩⟩⟩⟩⟩
def RX0 : String := "TruthCord$Book"
def TX0 : u_T := fun k => match k with
  | 0 => ("TruthCord$Book", "lines", "I", false)
  | 1 => ("TruthCord$Book", "lastDay", "I", false)
  | 2 => ("TruthCord$Book", "kind", "[I", true)
  | 3 => ("TruthCord$Book", "who", "[I", true)
  | 4 => ("TruthCord$Book", "other", "[I", true)
  | 5 => ("TruthCord$Book", "about", "[I", true)
  | 6 => ("TruthCord$Book", "more", "[I", true)
  | 7 => ("TruthCord$Book", "withTurns", "[I", true)
  | _ => ("TruthCord$Book", "day", "[I", true)
def tyX0 : Nat → FieldType := fun k => match k with
  | 0 => .int
  | 1 => .int
  | 2 => .array .int
  | 3 => .array .int
  | 4 => .array .int
  | 5 => .array .int
  | 6 => .array .int
  | 7 => .array .int
  | _ => .array .int
abbrev wsX00 : List Cond := u_ws RX0 TX0 9
theorem nmX0 : ∀ a, a < 9 → ∀ b, b < 9 → a ≠ b → (TX0 a).2.1 ≠ (TX0 b).2.1 := by decide +kernel
theorem tyX0_ok : ∀ k, k < 9 → parseFieldDescriptor (TX0 k).2.2.1 = some (tyX0 k) := by decide +kernel
abbrev cX0_init : ByteArray := prog_2_method_1_code
def yX0_init : MethodName := ⟨RX0, "<init>", "()V"⟩
abbrev cX0_clear : ByteArray := prog_2_method_2_code
def yX0_clear : MethodName := ⟨RX0, "clear", "()V"⟩
abbrev cX0_copy : ByteArray := prog_2_method_3_code
def yX0_copy : MethodName := ⟨RX0, "copy", "(LTruthCord$Book;)V"⟩
abbrev cX0_hasLine : ByteArray := prog_2_method_4_code
def yX0_hasLine : MethodName := ⟨RX0, "hasLine", "(I)Z"⟩
abbrev cX0_addDay : ByteArray := prog_2_method_5_code
def yX0_addDay : MethodName := ⟨RX0, "addDay", "(I)V"⟩
abbrev cX0_add : ByteArray := prog_2_method_6_code
def yX0_add : MethodName := ⟨RX0, "add", "(IIIIII)V"⟩
abbrev cX0_draw : ByteArray := prog_2_method_7_code
def yX0_draw : MethodName := ⟨RX0, "draw", "(ILTruthCord$Dice;LTruthCord$Valley;)V"⟩
abbrev cX0_take : ByteArray := prog_2_method_8_code
def yX0_take : MethodName := ⟨RX0, "take", "(LTruthCord$Reader;LTruthCord$Valley;)Z"⟩
abbrev cX0_takeLine : ByteArray := prog_2_method_9_code
def yX0_takeLine : MethodName := ⟨RX0, "takeLine", "(LTruthCord$Reader;LTruthCord$Valley;)Z"⟩
abbrev cX0_takeDay : ByteArray := prog_2_method_10_code
def yX0_takeDay : MethodName := ⟨RX0, "takeDay", "(LTruthCord$Reader;)Z"⟩
abbrev cX0_takeDeed : ByteArray := prog_2_method_11_code
def yX0_takeDeed : MethodName := ⟨RX0, "takeDeed", "(LTruthCord$Reader;LTruthCord$Valley;I)Z"⟩
abbrev cX0_takeWith : ByteArray := prog_2_method_12_code
def yX0_takeWith : MethodName := ⟨RX0, "takeWith", "(LTruthCord$Reader;LTruthCord$Valley;III)Z"⟩
def RX1 : String := "TruthCord$Dice"
def TX1 : u_T := fun k => match k with
  | _ => ("TruthCord$Dice", "seed", "I", false)
def tyX1 : Nat → FieldType := fun k => match k with
  | _ => .int
abbrev wsX10 : List Cond := u_ws RX1 TX1 1
theorem nmX1 : ∀ a, a < 1 → ∀ b, b < 1 → a ≠ b → (TX1 a).2.1 ≠ (TX1 b).2.1 := by decide +kernel
theorem tyX1_ok : ∀ k, k < 1 → parseFieldDescriptor (TX1 k).2.2.1 = some (tyX1 k) := by decide +kernel
abbrev cX1_init : ByteArray := prog_3_method_1_code
def yX1_init : MethodName := ⟨RX1, "<init>", "()V"⟩
abbrev cX1_draw : ByteArray := prog_3_method_2_code
def yX1_draw : MethodName := ⟨RX1, "draw", "(I)I"⟩
def RX2 : String := "TruthCord$Feast"
def TX2 : u_T := fun k => match k with
  | 0 => ("TruthCord$Feast", "settled", "Z", false)
  | 1 => ("TruthCord$Feast", "many", "I", false)
  | 2 => ("TruthCord$Feast", "paid", "I", false)
  | 3 => ("TruthCord$Feast", "hurt", "I", false)
  | 4 => ("TruthCord$Feast", "pays", "[I", true)
  | 5 => ("TruthCord$Feast", "payable", "[I", true)
  | _ => ("TruthCord$Feast", "least", "[J", true)
def tyX2 : Nat → FieldType := fun k => match k with
  | 0 => .boolean
  | 1 => .int
  | 2 => .int
  | 3 => .int
  | 4 => .array .int
  | 5 => .array .int
  | _ => .array .long
abbrev wsX20 : List Cond := u_ws RX2 TX2 7
theorem nmX2 : ∀ a, a < 7 → ∀ b, b < 7 → a ≠ b → (TX2 a).2.1 ≠ (TX2 b).2.1 := by decide +kernel
theorem tyX2_ok : ∀ k, k < 7 → parseFieldDescriptor (TX2 k).2.2.1 = some (tyX2 k) := by decide +kernel
abbrev cX2_init : ByteArray := prog_4_method_1_code
def yX2_init : MethodName := ⟨RX2, "<init>", "()V"⟩
abbrev cX2_settle : ByteArray := prog_4_method_2_code
def yX2_settle : MethodName := ⟨RX2, "settle", "(LTruthCord$Ledger;)V"⟩
abbrev cX2_takeDebts : ByteArray := prog_4_method_3_code
def yX2_takeDebts : MethodName := ⟨RX2, "takeDebts", "(LTruthCord$Ledger;)V"⟩
abbrev cX2_payableFor : ByteArray := prog_4_method_4_code
def yX2_payableFor : MethodName := ⟨RX2, "payableFor", "(LTruthCord$Ledger;II)I"⟩
abbrev cX2_digitShift : ByteArray := prog_4_method_5_code
def yX2_digitShift : MethodName := ⟨RX2, "digitShift", "(I)I"⟩
abbrev cX2_tryFact : ByteArray := prog_4_method_6_code
def yX2_tryFact : MethodName := ⟨RX2, "tryFact", "(III)V"⟩
abbrev cX2_unpaidBut : ByteArray := prog_4_method_7_code
def yX2_unpaidBut : MethodName := ⟨RX2, "unpaidBut", "(I)J"⟩
abbrev cX2_keep : ByteArray := prog_4_method_8_code
def yX2_keep : MethodName := ⟨RX2, "keep", "(J)V"⟩
def RX3 : String := "TruthCord$Image"
def TX3 : u_T := fun k => match k with
  | 0 => ("TruthCord$Image", "kept", "Z", false)
  | 1 => ("TruthCord$Image", "valley", "LTruthCord$Valley;", true)
  | 2 => ("TruthCord$Image", "book", "LTruthCord$Book;", true)
  | _ => ("TruthCord$Image", "sentence", "LTruthCord$Sentence;", true)
def tyX3 : Nat → FieldType := fun k => match k with
  | 0 => .boolean
  | 1 => .object "TruthCord$Valley"
  | 2 => .object "TruthCord$Book"
  | _ => .object "TruthCord$Sentence"
abbrev wsX30 : List Cond := u_ws RX3 TX3 4
theorem nmX3 : ∀ a, a < 4 → ∀ b, b < 4 → a ≠ b → (TX3 a).2.1 ≠ (TX3 b).2.1 := by decide +kernel
theorem tyX3_ok : ∀ k, k < 4 → parseFieldDescriptor (TX3 k).2.2.1 = some (tyX3 k) := by decide +kernel
abbrev cX3_init : ByteArray := prog_5_method_1_code
def yX3_init : MethodName := ⟨RX3, "<init>", "()V"⟩
abbrev cX3_keep : ByteArray := prog_5_method_2_code
def yX3_keep : MethodName := ⟨RX3, "keep", "(LTruthCord$Valley;LTruthCord$Book;LTruthCord$Sentence;)V"⟩
def RX4 : String := "TruthCord$Ledger"
def TX4 : u_T := fun k => match k with
  | 0 => ("TruthCord$Ledger", "valley", "LTruthCord$Valley;", true)
  | 1 => ("TruthCord$Ledger", "book", "LTruthCord$Book;", true)
  | 2 => ("TruthCord$Ledger", "known", "[I", true)
  | 3 => ("TruthCord$Ledger", "hurtOf", "[I", true)
  | 4 => ("TruthCord$Ledger", "coinsOf", "[I", true)
  | 5 => ("TruthCord$Ledger", "cameBy", "[I", true)
  | 6 => ("TruthCord$Ledger", "why", "[I", true)
  | 7 => ("TruthCord$Ledger", "told", "I", false)
  | 8 => ("TruthCord$Ledger", "many", "I", false)
  | 9 => ("TruthCord$Ledger", "ower", "[I", true)
  | 10 => ("TruthCord$Ledger", "other", "[I", true)
  | 11 => ("TruthCord$Ledger", "about", "[I", true)
  | 12 => ("TruthCord$Ledger", "first", "[I", true)
  | 13 => ("TruthCord$Ledger", "open", "[I", true)
  | 14 => ("TruthCord$Ledger", "from", "[I", true)
  | 15 => ("TruthCord$Ledger", "paidBy", "[I", true)
  | _ => ("TruthCord$Ledger", "found", "[I", true)
def tyX4 : Nat → FieldType := fun k => match k with
  | 0 => .object "TruthCord$Valley"
  | 1 => .object "TruthCord$Book"
  | 2 => .array .int
  | 3 => .array .int
  | 4 => .array .int
  | 5 => .array .int
  | 6 => .array .int
  | 7 => .int
  | 8 => .int
  | 9 => .array .int
  | 10 => .array .int
  | 11 => .array .int
  | 12 => .array .int
  | 13 => .array .int
  | 14 => .array .int
  | 15 => .array .int
  | _ => .array .int
abbrev wsX40 : List Cond := u_ws RX4 TX4 17
theorem nmX4 : ∀ a, a < 17 → ∀ b, b < 17 → a ≠ b → (TX4 a).2.1 ≠ (TX4 b).2.1 := by decide +kernel
theorem tyX4_ok : ∀ k, k < 17 → parseFieldDescriptor (TX4 k).2.2.1 = some (tyX4 k) := by decide +kernel
abbrev cX4_init : ByteArray := prog_6_method_1_code
def yX4_init : MethodName := ⟨RX4, "<init>", "(LTruthCord$Valley;LTruthCord$Book;)V"⟩
abbrev cX4_clear : ByteArray := prog_6_method_2_code
def yX4_clear : MethodName := ⟨RX4, "clear", "()V"⟩
abbrev cX4_judge : ByteArray := prog_6_method_3_code
def yX4_judge : MethodName := ⟨RX4, "judge", "(I)V"⟩
abbrev cX4_judgeLine : ByteArray := prog_6_method_4_code
def yX4_judgeLine : MethodName := ⟨RX4, "judgeLine", "(I)I"⟩
abbrev cX4_whyWrong : ByteArray := prog_6_method_5_code
def yX4_whyWrong : MethodName := ⟨RX4, "whyWrong", "(III)I"⟩
abbrev cX4_lie : ByteArray := prog_6_method_6_code
def yX4_lie : MethodName := ⟨RX4, "lie", "(I)V"⟩
abbrev cX4_owe : ByteArray := prog_6_method_7_code
def yX4_owe : MethodName := ⟨RX4, "owe", "(III)V"⟩
abbrev cX4_tell : ByteArray := prog_6_method_8_code
def yX4_tell : MethodName := ⟨RX4, "tell", "(IIII)V"⟩
abbrev cX4_pay : ByteArray := prog_6_method_9_code
def yX4_pay : MethodName := ⟨RX4, "pay", "(III)V"⟩
abbrev cX4_learn : ByteArray := prog_6_method_10_code
def yX4_learn : MethodName := ⟨RX4, "learn", "(III)V"⟩
abbrev cX4_grown : ByteArray := prog_6_method_11_code
def yX4_grown : MethodName := ⟨RX4, "grown", "(I)I"⟩
abbrev cX4_tellMore : ByteArray := prog_6_method_12_code
def yX4_tellMore : MethodName := ⟨RX4, "tellMore", "(III)I"⟩
abbrev cX4_copyDebts : ByteArray := prog_6_method_13_code
def yX4_copyDebts : MethodName := ⟨RX4, "copyDebts", "(LTruthCord$Ledger;)V"⟩
abbrev cX4_goBackTo : ByteArray := prog_6_method_14_code
def yX4_goBackTo : MethodName := ⟨RX4, "goBackTo", "(LTruthCord$Ledger;)V"⟩
abbrev cX4_hasDebt : ByteArray := prog_6_method_15_code
def yX4_hasDebt : MethodName := ⟨RX4, "hasDebt", "(I)Z"⟩
abbrev cX4_isKnown : ByteArray := prog_6_method_16_code
def yX4_isKnown : MethodName := ⟨RX4, "isKnown", "(II)Z"⟩
abbrev cX4_freshFor : ByteArray := prog_6_method_17_code
def yX4_freshFor : MethodName := ⟨RX4, "freshFor", "(II)I"⟩
abbrev cX4_oldValue : ByteArray := prog_6_method_18_code
def yX4_oldValue : MethodName := ⟨RX4, "oldValue", "(I)I"⟩
abbrev cX4_valueFor : ByteArray := prog_6_method_19_code
def yX4_valueFor : MethodName := ⟨RX4, "valueFor", "(II)I"⟩
abbrev cX4_knownToOthers : ByteArray := prog_6_method_20_code
def yX4_knownToOthers : MethodName := ⟨RX4, "knownToOthers", "(I)I"⟩
abbrev cX4_knownToAll : ByteArray := prog_6_method_21_code
def yX4_knownToAll : MethodName := ⟨RX4, "knownToAll", "()I"⟩
abbrev cX4_dayOf : ByteArray := prog_6_method_22_code
def yX4_dayOf : MethodName := ⟨RX4, "dayOf", "(I)I"⟩
abbrev cX4_isLate : ByteArray := prog_6_method_23_code
def yX4_isLate : MethodName := ⟨RX4, "isLate", "(I)Z"⟩
abbrev cX4_firstOpenOf : ByteArray := prog_6_method_24_code
def yX4_firstOpenOf : MethodName := ⟨RX4, "firstOpenOf", "(I)I"⟩
abbrev cX4_paidByTelling : ByteArray := prog_6_method_25_code
def yX4_paidByTelling : MethodName := ⟨RX4, "paidByTelling", "(II)I"⟩
abbrev cX4_sumFor : ByteArray := prog_6_method_26_code
def yX4_sumFor : MethodName := ⟨RX4, "sumFor", "(II)I"⟩
abbrev cX4_hasLate : ByteArray := prog_6_method_27_code
def yX4_hasLate : MethodName := ⟨RX4, "hasLate", "(I)Z"⟩
abbrev cX4_owedInAll : ByteArray := prog_6_method_28_code
def yX4_owedInAll : MethodName := ⟨RX4, "owedInAll", "()I"⟩
abbrev cX4_sumInAll : ByteArray := prog_6_method_29_code
def yX4_sumInAll : MethodName := ⟨RX4, "sumInAll", "(I)I"⟩
abbrev cX4_hurtInAll : ByteArray := prog_6_method_30_code
def yX4_hurtInAll : MethodName := ⟨RX4, "hurtInAll", "()I"⟩
abbrev cX4_howManyWrong : ByteArray := prog_6_method_31_code
def yX4_howManyWrong : MethodName := ⟨RX4, "howManyWrong", "()I"⟩
abbrev cX4_isOpenAbout : ByteArray := prog_6_method_32_code
def yX4_isOpenAbout : MethodName := ⟨RX4, "isOpenAbout", "(III)Z"⟩
abbrev cX4_openAbout : ByteArray := prog_6_method_33_code
def yX4_openAbout : MethodName := ⟨RX4, "openAbout", "(II)I"⟩
abbrev cX4_growthAbout : ByteArray := prog_6_method_34_code
def yX4_growthAbout : MethodName := ⟨RX4, "growthAbout", "(II)I"⟩
abbrev cX4_priceFor : ByteArray := prog_6_method_35_code
def yX4_priceFor : MethodName := ⟨RX4, "priceFor", "(II)I"⟩
def RX5 : String := "TruthCord$Reader"
def TX5 : u_T := fun k => match k with
  | 0 => ("TruthCord$Reader", "tape", "LTruthCord$Tape;", true)
  | 1 => ("TruthCord$Reader", "keywords", "[I", true)
  | 2 => ("TruthCord$Reader", "stop", "I", false)
  | 3 => ("TruthCord$Reader", "next", "I", false)
  | 4 => ("TruthCord$Reader", "kind", "I", false)
  | 5 => ("TruthCord$Reader", "at", "I", false)
  | 6 => ("TruthCord$Reader", "value", "I", false)
  | _ => ("TruthCord$Reader", "fault", "I", false)
def tyX5 : Nat → FieldType := fun k => match k with
  | 0 => .object "TruthCord$Tape"
  | 1 => .array .int
  | 2 => .int
  | 3 => .int
  | 4 => .int
  | 5 => .int
  | 6 => .int
  | _ => .int
abbrev wsX50 : List Cond := u_ws RX5 TX5 8
theorem nmX5 : ∀ a, a < 8 → ∀ b, b < 8 → a ≠ b → (TX5 a).2.1 ≠ (TX5 b).2.1 := by decide +kernel
theorem tyX5_ok : ∀ k, k < 8 → parseFieldDescriptor (TX5 k).2.2.1 = some (tyX5 k) := by decide +kernel
abbrev cX5_init : ByteArray := prog_7_method_1_code
def yX5_init : MethodName := ⟨RX5, "<init>", "(LTruthCord$Tape;)V"⟩
abbrev cX5_open : ByteArray := prog_7_method_2_code
def yX5_open : MethodName := ⟨RX5, "open", "(I)V"⟩
abbrev cX5_step : ByteArray := prog_7_method_3_code
def yX5_step : MethodName := ⟨RX5, "step", "()V"⟩
abbrev cX5_takeRun : ByteArray := prog_7_method_4_code
def yX5_takeRun : MethodName := ⟨RX5, "takeRun", "()Z"⟩
abbrev cX5_refuse : ByteArray := prog_7_method_5_code
def yX5_refuse : MethodName := ⟨RX5, "refuse", "(I)Z"⟩
abbrev cX5_isSign : ByteArray := prog_7_method_6_code
def yX5_isSign : MethodName := ⟨RX5, "isSign", "(C)Z"⟩
abbrev cX5_keyword : ByteArray := prog_7_method_7_code
def yX5_keyword : MethodName := ⟨RX5, "keyword", "()I"⟩
abbrev cX5_isName : ByteArray := prog_7_method_8_code
def yX5_isName : MethodName := ⟨RX5, "isName", "()Z"⟩
abbrev cX5_stepSign : ByteArray := prog_7_method_9_code
def yX5_stepSign : MethodName := ⟨RX5, "stepSign", "(C)Z"⟩
abbrev cX5_stepNumber : ByteArray := prog_7_method_10_code
def yX5_stepNumber : MethodName := ⟨RX5, "stepNumber", "(II)I"⟩
abbrev cX5_stepName : ByteArray := prog_7_method_11_code
def yX5_stepName : MethodName := ⟨RX5, "stepName", "([II)I"⟩
def RX6 : String := "TruthCord$Sentence"
def TX6 : u_T := fun k => match k with
  | 0 => ("TruthCord$Sentence", "ones", "I", false)
  | 1 => ("TruthCord$Sentence", "steps", "I", false)
  | 2 => ("TruthCord$Sentence", "word", "[I", true)
  | 3 => ("TruthCord$Sentence", "sign", "[I", true)
  | 4 => ("TruthCord$Sentence", "number", "[I", true)
  | _ => ("TruthCord$Sentence", "pile", "[I", true)
def tyX6 : Nat → FieldType := fun k => match k with
  | 0 => .int
  | 1 => .int
  | 2 => .array .int
  | 3 => .array .int
  | 4 => .array .int
  | _ => .array .int
abbrev wsX60 : List Cond := u_ws RX6 TX6 6
theorem nmX6 : ∀ a, a < 6 → ∀ b, b < 6 → a ≠ b → (TX6 a).2.1 ≠ (TX6 b).2.1 := by decide +kernel
theorem tyX6_ok : ∀ k, k < 6 → parseFieldDescriptor (TX6 k).2.2.1 = some (tyX6 k) := by decide +kernel
abbrev cX6_init : ByteArray := prog_8_method_1_code
def yX6_init : MethodName := ⟨RX6, "<init>", "()V"⟩
abbrev cX6_clear : ByteArray := prog_8_method_2_code
def yX6_clear : MethodName := ⟨RX6, "clear", "()V"⟩
abbrev cX6_copy : ByteArray := prog_8_method_3_code
def yX6_copy : MethodName := ⟨RX6, "copy", "(LTruthCord$Sentence;)V"⟩
abbrev cX6_take : ByteArray := prog_8_method_4_code
def yX6_take : MethodName := ⟨RX6, "take", "(LTruthCord$Reader;LTruthCord$Valley;)Z"⟩
abbrev cX6_takeCond : ByteArray := prog_8_method_5_code
def yX6_takeCond : MethodName := ⟨RX6, "takeCond", "(LTruthCord$Reader;LTruthCord$Valley;I)Z"⟩
abbrev cX6_takeAll : ByteArray := prog_8_method_6_code
def yX6_takeAll : MethodName := ⟨RX6, "takeAll", "(LTruthCord$Reader;LTruthCord$Valley;I)Z"⟩
abbrev cX6_takeOne : ByteArray := prog_8_method_7_code
def yX6_takeOne : MethodName := ⟨RX6, "takeOne", "(LTruthCord$Reader;LTruthCord$Valley;I)Z"⟩
abbrev cX6_takePlain : ByteArray := prog_8_method_8_code
def yX6_takePlain : MethodName := ⟨RX6, "takePlain", "(LTruthCord$Reader;LTruthCord$Valley;I)Z"⟩
abbrev cX6_addStep : ByteArray := prog_8_method_9_code
def yX6_addStep : MethodName := ⟨RX6, "addStep", "(III)V"⟩
abbrev cX6_holdsFor : ByteArray := prog_8_method_10_code
def yX6_holdsFor : MethodName := ⟨RX6, "holdsFor", "(LTruthCord$Ledger;)I"⟩
abbrev cX6_plainFor : ByteArray := prog_8_method_11_code
def yX6_plainFor : MethodName := ⟨RX6, "plainFor", "(LTruthCord$Ledger;I)I"⟩
abbrev cX6_isPlainOf : ByteArray := prog_8_method_12_code
def yX6_isPlainOf : MethodName := ⟨RX6, "isPlainOf", "(LTruthCord$Ledger;II)Z"⟩
def RX7 : String := "TruthCord$Tape"
def TX7 : u_T := fun k => match k with
  | 0 => ("TruthCord$Tape", "bytes", "[I", true)
  | _ => ("TruthCord$Tape", "length", "I", false)
def tyX7 : Nat → FieldType := fun k => match k with
  | 0 => .array .int
  | _ => .int
abbrev wsX70 : List Cond := u_ws RX7 TX7 2
theorem nmX7 : ∀ a, a < 2 → ∀ b, b < 2 → a ≠ b → (TX7 a).2.1 ≠ (TX7 b).2.1 := by decide +kernel
theorem tyX7_ok : ∀ k, k < 2 → parseFieldDescriptor (TX7 k).2.2.1 = some (tyX7 k) := by decide +kernel
abbrev cX7_init : ByteArray := prog_9_method_1_code
def yX7_init : MethodName := ⟨RX7, "<init>", "()V"⟩
abbrev cX7_put : ByteArray := prog_9_method_2_code
def yX7_put : MethodName := ⟨RX7, "put", "(I)V"⟩
def RX8 : String := "TruthCord$Tellings"
def TX8 : u_T := fun k => match k with
  | 0 => ("TruthCord$Tellings", "many", "I", false)
  | 1 => ("TruthCord$Tellings", "who", "[I", true)
  | 2 => ("TruthCord$Tellings", "other", "[I", true)
  | 3 => ("TruthCord$Tellings", "about", "[I", true)
  | 4 => ("TruthCord$Tellings", "turns", "[I", true)
  | 5 => ("TruthCord$Tellings", "bestMany", "I", false)
  | _ => ("TruthCord$Tellings", "best", "[I", true)
def tyX8 : Nat → FieldType := fun k => match k with
  | 0 => .int
  | 1 => .array .int
  | 2 => .array .int
  | 3 => .array .int
  | 4 => .array .int
  | 5 => .int
  | _ => .array .int
abbrev wsX80 : List Cond := u_ws RX8 TX8 7
theorem nmX8 : ∀ a, a < 7 → ∀ b, b < 7 → a ≠ b → (TX8 a).2.1 ≠ (TX8 b).2.1 := by decide +kernel
theorem tyX8_ok : ∀ k, k < 7 → parseFieldDescriptor (TX8 k).2.2.1 = some (tyX8 k) := by decide +kernel
abbrev cX8_init : ByteArray := prog_10_method_1_code
def yX8_init : MethodName := ⟨RX8, "<init>", "()V"⟩
abbrev cX8_take : ByteArray := prog_10_method_2_code
def yX8_take : MethodName := ⟨RX8, "take", "(LTruthCord$Tape;LTruthCord$Valley;)Z"⟩
abbrev cX8_settle : ByteArray := prog_10_method_3_code
def yX8_settle : MethodName := ⟨RX8, "settle", "(LTruthCord$Ledger;LTruthCord$Ledger;)I"⟩
abbrev cX8_tryTurns : ByteArray := prog_10_method_4_code
def yX8_tryTurns : MethodName := ⟨RX8, "tryTurns", "(LTruthCord$Ledger;)I"⟩
abbrev cX8_nextTurns : ByteArray := prog_10_method_5_code
def yX8_nextTurns : MethodName := ⟨RX8, "nextTurns", "()Z"⟩
abbrev cX8_swap : ByteArray := prog_10_method_6_code
def yX8_swap : MethodName := ⟨RX8, "swap", "(II)V"⟩
def RX9 : String := "TruthCord$Valley"
def TX9 : u_T := fun k => match k with
  | 0 => ("TruthCord$Valley", "people", "I", false)
  | 1 => ("TruthCord$Valley", "facts", "I", false)
  | 2 => ("TruthCord$Valley", "sinces", "I", false)
  | 3 => ("TruthCord$Valley", "settingsTold", "I", false)
  | 4 => ("TruthCord$Valley", "whoNames", "[I", true)
  | 5 => ("TruthCord$Valley", "toldTo", "[I", true)
  | 6 => ("TruthCord$Valley", "factNames", "[I", true)
  | 7 => ("TruthCord$Valley", "lengthOf", "[I", true)
  | 8 => ("TruthCord$Valley", "hurtBy", "[I", true)
  | 9 => ("TruthCord$Valley", "about", "[I", true)
  | 10 => ("TruthCord$Valley", "sinceNeeds", "[I", true)
  | 11 => ("TruthCord$Valley", "sinceGives", "[I", true)
  | 12 => ("TruthCord$Valley", "asked", "[I", true)
  | _ => ("TruthCord$Valley", "settings", "[I", true)
def tyX9 : Nat → FieldType := fun k => match k with
  | 0 => .int
  | 1 => .int
  | 2 => .int
  | 3 => .int
  | 4 => .array .int
  | 5 => .array .int
  | 6 => .array .int
  | 7 => .array .int
  | 8 => .array .int
  | 9 => .array .int
  | 10 => .array .int
  | 11 => .array .int
  | 12 => .array .int
  | _ => .array .int
abbrev wsX90 : List Cond := u_ws RX9 TX9 14
theorem nmX9 : ∀ a, a < 14 → ∀ b, b < 14 → a ≠ b → (TX9 a).2.1 ≠ (TX9 b).2.1 := by decide +kernel
theorem tyX9_ok : ∀ k, k < 14 → parseFieldDescriptor (TX9 k).2.2.1 = some (tyX9 k) := by decide +kernel
abbrev cX9_init : ByteArray := prog_11_method_1_code
def yX9_init : MethodName := ⟨RX9, "<init>", "()V"⟩
abbrev cX9_clear : ByteArray := prog_11_method_2_code
def yX9_clear : MethodName := ⟨RX9, "clear", "()V"⟩
abbrev cX9_copy : ByteArray := prog_11_method_3_code
def yX9_copy : MethodName := ⟨RX9, "copy", "(LTruthCord$Valley;)V"⟩
abbrev cX9_hasWho : ByteArray := prog_11_method_4_code
def yX9_hasWho : MethodName := ⟨RX9, "hasWho", "(I)Z"⟩
abbrev cX9_hasFact : ByteArray := prog_11_method_5_code
def yX9_hasFact : MethodName := ⟨RX9, "hasFact", "(I)Z"⟩
abbrev cX9_follow : ByteArray := prog_11_method_6_code
def yX9_follow : MethodName := ⟨RX9, "follow", "(I)I"⟩
abbrev cX9_take : ByteArray := prog_11_method_7_code
def yX9_take : MethodName := ⟨RX9, "take", "(LTruthCord$Reader;)I"⟩
abbrev cX9_takeLine : ByteArray := prog_11_method_8_code
def yX9_takeLine : MethodName := ⟨RX9, "takeLine", "(LTruthCord$Reader;)Z"⟩
abbrev cX9_takeNewName : ByteArray := prog_11_method_9_code
def yX9_takeNewName : MethodName := ⟨RX9, "takeNewName", "(LTruthCord$Reader;)Z"⟩
abbrev cX9_takeWho : ByteArray := prog_11_method_10_code
def yX9_takeWho : MethodName := ⟨RX9, "takeWho", "(LTruthCord$Reader;)Z"⟩
abbrev cX9_takeFact : ByteArray := prog_11_method_11_code
def yX9_takeFact : MethodName := ⟨RX9, "takeFact", "(LTruthCord$Reader;)Z"⟩
abbrev cX9_takeKnows : ByteArray := prog_11_method_12_code
def yX9_takeKnows : MethodName := ⟨RX9, "takeKnows", "(LTruthCord$Reader;)Z"⟩
abbrev cX9_takeSince : ByteArray := prog_11_method_13_code
def yX9_takeSince : MethodName := ⟨RX9, "takeSince", "(LTruthCord$Reader;)Z"⟩
abbrev cX9_takeAsks : ByteArray := prog_11_method_14_code
def yX9_takeAsks : MethodName := ⟨RX9, "takeAsks", "(LTruthCord$Reader;)Z"⟩
abbrev cX9_takeSetting : ByteArray := prog_11_method_15_code
def yX9_takeSetting : MethodName := ⟨RX9, "takeSetting", "(LTruthCord$Reader;I)Z"⟩
def RX10 : String := "TruthCord$Wants"
def TX10 : u_T := fun k => match k with
  | 0 => ("TruthCord$Wants", "value", "[I", true)
  | 1 => ("TruthCord$Wants", "price", "[I", true)
  | 2 => ("TruthCord$Wants", "dear", "[I", true)
  | 3 => ("TruthCord$Wants", "due", "[I", true)
  | _ => ("TruthCord$Wants", "least", "[I", true)
def tyX10 : Nat → FieldType := fun k => match k with
  | 0 => .array .int
  | 1 => .array .int
  | 2 => .array .int
  | 3 => .array .int
  | _ => .array .int
abbrev wsX100 : List Cond := u_ws RX10 TX10 5
theorem nmX10 : ∀ a, a < 5 → ∀ b, b < 5 → a ≠ b → (TX10 a).2.1 ≠ (TX10 b).2.1 := by decide +kernel
theorem tyX10_ok : ∀ k, k < 5 → parseFieldDescriptor (TX10 k).2.2.1 = some (tyX10 k) := by decide +kernel
abbrev cX10_init : ByteArray := prog_12_method_1_code
def yX10_init : MethodName := ⟨RX10, "<init>", "()V"⟩
abbrev cX10_coinsFor : ByteArray := prog_12_method_2_code
def yX10_coinsFor : MethodName := ⟨RX10, "coinsFor", "(I)I"⟩
abbrev cX10_factsIn : ByteArray := prog_12_method_3_code
def yX10_factsIn : MethodName := ⟨RX10, "factsIn", "(I)I"⟩
abbrev cX10_bitsOf : ByteArray := prog_12_method_4_code
def yX10_bitsOf : MethodName := ⟨RX10, "bitsOf", "(I)I"⟩
abbrev cX10_leastFor : ByteArray := prog_12_method_5_code
def yX10_leastFor : MethodName := ⟨RX10, "leastFor", "(LTruthCord$Ledger;IZ)I"⟩
abbrev cX10_takeDues : ByteArray := prog_12_method_6_code
def yX10_takeDues : MethodName := ⟨RX10, "takeDues", "(LTruthCord$Ledger;I)I"⟩
abbrev cX10_takeFact : ByteArray := prog_12_method_7_code
def yX10_takeFact : MethodName := ⟨RX10, "takeFact", "(LTruthCord$Ledger;IIZ)V"⟩
def RX11 : String := "TruthCord"
def TX11 : u_T := fun k => match k with
  | 0 => ("TruthCord", "tape", "LTruthCord$Tape;", true)
  | 1 => ("TruthCord", "reader", "LTruthCord$Reader;", true)
  | 2 => ("TruthCord", "valley", "LTruthCord$Valley;", true)
  | 3 => ("TruthCord", "newValley", "LTruthCord$Valley;", true)
  | 4 => ("TruthCord", "book", "LTruthCord$Book;", true)
  | 5 => ("TruthCord", "newBook", "LTruthCord$Book;", true)
  | 6 => ("TruthCord", "sentence", "LTruthCord$Sentence;", true)
  | 7 => ("TruthCord", "newSentence", "LTruthCord$Sentence;", true)
  | 8 => ("TruthCord", "ledger", "LTruthCord$Ledger;", true)
  | 9 => ("TruthCord", "trial", "LTruthCord$Ledger;", true)
  | 10 => ("TruthCord", "feast", "LTruthCord$Feast;", true)
  | 11 => ("TruthCord", "wants", "LTruthCord$Wants;", true)
  | 12 => ("TruthCord", "tellings", "LTruthCord$Tellings;", true)
  | 13 => ("TruthCord", "dice", "LTruthCord$Dice;", true)
  | 14 => ("TruthCord", "knots", "[I", true)
  | 15 => ("TruthCord", "images", "[LTruthCord$Image;", true)
  | _ => ("TruthCord", "faultKind", "I", false)
def tyX11 : Nat → FieldType := fun k => match k with
  | 0 => .object "TruthCord$Tape"
  | 1 => .object "TruthCord$Reader"
  | 2 => .object "TruthCord$Valley"
  | 3 => .object "TruthCord$Valley"
  | 4 => .object "TruthCord$Book"
  | 5 => .object "TruthCord$Book"
  | 6 => .object "TruthCord$Sentence"
  | 7 => .object "TruthCord$Sentence"
  | 8 => .object "TruthCord$Ledger"
  | 9 => .object "TruthCord$Ledger"
  | 10 => .object "TruthCord$Feast"
  | 11 => .object "TruthCord$Wants"
  | 12 => .object "TruthCord$Tellings"
  | 13 => .object "TruthCord$Dice"
  | 14 => .array .int
  | 15 => .array (.object "TruthCord$Image")
  | _ => .int
abbrev wsX110 : List Cond := u_ws RX11 TX11 17
theorem nmX11 : ∀ a, a < 17 → ∀ b, b < 17 → a ≠ b → (TX11 a).2.1 ≠ (TX11 b).2.1 := by decide +kernel
theorem tyX11_ok : ∀ k, k < 17 → parseFieldDescriptor (TX11 k).2.2.1 = some (tyX11 k) := by decide +kernel
abbrev cX11_init : ByteArray := prog_1_method_1_code
def yX11_init : MethodName := ⟨RX11, "<init>", "()V"⟩
abbrev cX11_feed : ByteArray := prog_1_method_2_code
def yX11_feed : MethodName := ⟨RX11, "feed", "(IIIII)I"⟩
abbrev cX11_end : ByteArray := prog_1_method_3_code
def yX11_end : MethodName := ⟨RX11, "end", "(I)Z"⟩
abbrev cX11_valley : ByteArray := prog_1_method_4_code
def yX11_valley : MethodName := ⟨RX11, "valley", "()I"⟩
abbrev cX11_fault : ByteArray := prog_1_method_5_code
def yX11_fault : MethodName := ⟨RX11, "fault", "()I"⟩
abbrev cX11_fact : ByteArray := prog_1_method_6_code
def yX11_fact : MethodName := ⟨RX11, "fact", "(II)I"⟩
abbrev cX11_knows : ByteArray := prog_1_method_7_code
def yX11_knows : MethodName := ⟨RX11, "knows", "(II)I"⟩
abbrev cX11_book : ByteArray := prog_1_method_8_code
def yX11_book : MethodName := ⟨RX11, "book", "()I"⟩
abbrev cX11_drawn : ByteArray := prog_1_method_9_code
def yX11_drawn : MethodName := ⟨RX11, "drawn", "(II)I"⟩
abbrev cX11_line : ByteArray := prog_1_method_10_code
def yX11_line : MethodName := ⟨RX11, "line", "(II)I"⟩
abbrev cX11_wrong : ByteArray := prog_1_method_11_code
def yX11_wrong : MethodName := ⟨RX11, "wrong", "(I)I"⟩
abbrev cX11_debts : ByteArray := prog_1_method_12_code
def yX11_debts : MethodName := ⟨RX11, "debts", "()I"⟩
abbrev cX11_debt : ByteArray := prog_1_method_13_code
def yX11_debt : MethodName := ⟨RX11, "debt", "(II)I"⟩
abbrev cX11_worth : ByteArray := prog_1_method_14_code
def yX11_worth : MethodName := ⟨RX11, "worth", "(II)I"⟩
abbrev cX11_came : ByteArray := prog_1_method_15_code
def yX11_came : MethodName := ⟨RX11, "came", "(II)I"⟩
abbrev cX11_autumn : ByteArray := prog_1_method_16_code
def yX11_autumn : MethodName := ⟨RX11, "autumn", "(I)I"⟩
abbrev cX11_feast : ByteArray := prog_1_method_17_code
def yX11_feast : MethodName := ⟨RX11, "feast", "(I)I"⟩
abbrev cX11_feastAt : ByteArray := prog_1_method_18_code
def yX11_feastAt : MethodName := ⟨RX11, "feastAt", "(I)I"⟩
abbrev cX11_needs : ByteArray := prog_1_method_19_code
def yX11_needs : MethodName := ⟨RX11, "needs", "(II)I"⟩
abbrev cX11_buys : ByteArray := prog_1_method_20_code
def yX11_buys : MethodName := ⟨RX11, "buys", "(II)I"⟩
abbrev cX11_terms : ByteArray := prog_1_method_21_code
def yX11_terms : MethodName := ⟨RX11, "terms", "(I)I"⟩
abbrev cX11_source : ByteArray := prog_1_method_22_code
def yX11_source : MethodName := ⟨RX11, "source", "(II)I"⟩
abbrev cX11_led : ByteArray := prog_1_method_23_code
def yX11_led : MethodName := ⟨RX11, "led", "(II)I"⟩
abbrev cX11_order : ByteArray := prog_1_method_24_code
def yX11_order : MethodName := ⟨RX11, "order", "()I"⟩
abbrev cX11_orderAt : ByteArray := prog_1_method_25_code
def yX11_orderAt : MethodName := ⟨RX11, "orderAt", "(I)I"⟩
abbrev cX11_ripple : ByteArray := prog_1_method_26_code
def yX11_ripple : MethodName := ⟨RX11, "ripple", "(IIII)I"⟩
abbrev cX11_unsaid : ByteArray := prog_1_method_27_code
def yX11_unsaid : MethodName := ⟨RX11, "unsaid", "(I)I"⟩
abbrev cX11_cord : ByteArray := prog_1_method_28_code
def yX11_cord : MethodName := ⟨RX11, "cord", "(II)I"⟩
abbrev cX11_read : ByteArray := prog_1_method_29_code
def yX11_read : MethodName := ⟨RX11, "read", "()I"⟩
abbrev cX11_near : ByteArray := prog_1_method_30_code
def yX11_near : MethodName := ⟨RX11, "near", "(I)I"⟩
abbrev cX11_measured : ByteArray := prog_1_method_31_code
def yX11_measured : MethodName := ⟨RX11, "measured", "(II)I"⟩
abbrev cX11_slips : ByteArray := prog_1_method_32_code
def yX11_slips : MethodName := ⟨RX11, "slips", "(III)I"⟩
abbrev cX11_sentence : ByteArray := prog_1_method_33_code
def yX11_sentence : MethodName := ⟨RX11, "sentence", "()I"⟩
abbrev cX11_said : ByteArray := prog_1_method_34_code
def yX11_said : MethodName := ⟨RX11, "said", "()I"⟩
abbrev cX11_image : ByteArray := prog_1_method_35_code
def yX11_image : MethodName := ⟨RX11, "image", "(I)Z"⟩
abbrev cX11_restore : ByteArray := prog_1_method_36_code
def yX11_restore : MethodName := ⟨RX11, "restore", "(I)Z"⟩
abbrev cX11_count : ByteArray := prog_1_method_37_code
def yX11_count : MethodName := ⟨RX11, "count", "(I)I"⟩
abbrev cX11_noteReading : ByteArray := prog_1_method_38_code
def yX11_noteReading : MethodName := ⟨RX11, "noteReading", "()V"⟩
abbrev cX11_refusedAt : ByteArray := prog_1_method_39_code
def yX11_refusedAt : MethodName := ⟨RX11, "refusedAt", "()I"⟩
abbrev cX11_judgeAnew : ByteArray := prog_1_method_40_code
def yX11_judgeAnew : MethodName := ⟨RX11, "judgeAnew", "()V"⟩
abbrev cX11_takeKnots : ByteArray := prog_1_method_41_code
def yX11_takeKnots : MethodName := ⟨RX11, "takeKnots", "()Z"⟩
abbrev cX11_isLength : ByteArray := prog_1_method_42_code
def yX11_isLength : MethodName := ⟨RX11, "isLength", "(I)Z"⟩
abbrev cX11_knotsAt : ByteArray := prog_1_method_43_code
def yX11_knotsAt : MethodName := ⟨RX11, "knotsAt", "(II)I"⟩
abbrev cX11_lengthOf : ByteArray := prog_1_method_44_code
def yX11_lengthOf : MethodName := ⟨RX11, "lengthOf", "([I)I"⟩
abbrev cX11_isNear : ByteArray := prog_1_method_45_code
def yX11_isNear : MethodName := ⟨RX11, "isNear", "(I[I)Z"⟩
abbrev cX11_measure : ByteArray := prog_1_method_46_code
def yX11_measure : MethodName := ⟨RX11, "measure", "(ILTruthCord$Dice;[I)V"⟩
abbrev cX11_cutUp : ByteArray := prog_1_method_47_code
def yX11_cutUp : MethodName := ⟨RX11, "cutUp", "(II)I"⟩
abbrev cX11_hasBit : ByteArray := prog_1_method_48_code
def yX11_hasBit : MethodName := ⟨RX11, "hasBit", "(II)Z"⟩
abbrev cX11_placeOf : ByteArray := prog_1_method_49_code
def yX11_placeOf : MethodName := ⟨RX11, "placeOf", "(I[II)I"⟩
def RX12 : String := "TruthCordModel"
def TX12 : u_T := fun k => match k with
  | 0 => ("TruthCordModel", "thrown", "I", false)
  | 1 => ("TruthCordModel", "tape", "[B", true)
  | 2 => ("TruthCordModel", "length", "I", false)
  | 3 => ("TruthCordModel", "size", "I", false)
  | 4 => ("TruthCordModel", "p", "I", false)
  | 5 => ("TruthCordModel", "limit", "I", false)
  | 6 => ("TruthCordModel", "s", "[I", true)
  | 7 => ("TruthCordModel", "h", "[I", true)
  | 8 => ("TruthCordModel", "lines", "[I", true)
  | 9 => ("TruthCordModel", "names", "[J", true)
  | 10 => ("TruthCordModel", "reserved", "[J", true)
  | 11 => ("TruthCordModel", "token", "I", false)
  | 12 => ("TruthCordModel", "at", "I", false)
  | 13 => ("TruthCordModel", "span", "I", false)
  | 14 => ("TruthCordModel", "number", "I", false)
  | 15 => ("TruthCordModel", "fault", "I", false)
  | 16 => ("TruthCordModel", "faultAt", "I", false)
  | 17 => ("TruthCordModel", "word", "J", false)
  | 18 => ("TruthCordModel", "got", "I", false)
  | 19 => ("TruthCordModel", "lineMany", "I", false)
  | 20 => ("TruthCordModel", "had", "I", false)
  | 21 => ("TruthCordModel", "coming", "I", false)
  | 22 => ("TruthCordModel", "today", "I", false)
  | 23 => ("TruthCordModel", "told", "[I", true)
  | 24 => ("TruthCordModel", "orders", "[I", true)
  | 25 => ("TruthCordModel", "orderOf", "[I", true)
  | 26 => ("TruthCordModel", "keptOrders", "[I", true)
  | 27 => ("TruthCordModel", "seed", "I", false)
  | 28 => ("TruthCordModel", "knows", "[I", true)
  | 29 => ("TruthCordModel", "source", "[I", true)
  | 30 => ("TruthCordModel", "hurt", "[I", true)
  | 31 => ("TruthCordModel", "coins", "[I", true)
  | 32 => ("TruthCordModel", "whys", "[I", true)
  | 33 => ("TruthCordModel", "debtWho", "[I", true)
  | 34 => ("TruthCordModel", "debtTo", "[I", true)
  | 35 => ("TruthCordModel", "debtFact", "[I", true)
  | 36 => ("TruthCordModel", "debtFirst", "[I", true)
  | 37 => ("TruthCordModel", "debtNow", "[I", true)
  | 38 => ("TruthCordModel", "debtLine", "[I", true)
  | 39 => ("TruthCordModel", "debtPaid", "[I", true)
  | 40 => ("TruthCordModel", "debtFound", "[I", true)
  | 41 => ("TruthCordModel", "debtDay", "[I", true)
  | 42 => ("TruthCordModel", "paidDay", "[I", true)
  | 43 => ("TruthCordModel", "debtMany", "I", false)
  | 44 => ("TruthCordModel", "day", "I", false)
  | 45 => ("TruthCordModel", "open", "I", false)
  | 46 => ("TruthCordModel", "wrongs", "I", false)
  | 47 => ("TruthCordModel", "rest", "[I", true)
  | 48 => ("TruthCordModel", "feastFact", "[I", true)
  | 49 => ("TruthCordModel", "feastDebt", "[I", true)
  | 50 => ("TruthCordModel", "feastMany", "I", false)
  | 51 => ("TruthCordModel", "due", "[I", true)
  | 52 => ("TruthCordModel", "truth", "[I", true)
  | 53 => ("TruthCordModel", "dueMany", "I", false)
  | 54 => ("TruthCordModel", "truthMany", "I", false)
  | 55 => ("TruthCordModel", "bestSet", "I", false)
  | 56 => ("TruthCordModel", "bestCoins", "I", false)
  | 57 => ("TruthCordModel", "turn", "[I", true)
  | 58 => ("TruthCordModel", "bestTurn", "[I", true)
  | 59 => ("TruthCordModel", "triples", "[I", true)
  | 60 => ("TruthCordModel", "turnMany", "I", false)
  | 61 => ("TruthCordModel", "knots", "[I", true)
  | 62 => ("TruthCordModel", "seen", "[I", true)
  | 63 => ("TruthCordModel", "code", "[I", true)
  | 64 => ("TruthCordModel", "pile", "[I", true)
  | 65 => ("TruthCordModel", "held", "[Z", true)
  | 66 => ("TruthCordModel", "codeMany", "I", false)
  | 67 => ("TruthCordModel", "pileMany", "I", false)
  | 68 => ("TruthCordModel", "ones", "I", false)
  | 69 => ("TruthCordModel", "kept", "[I", true)
  | 70 => ("TruthCordModel", "namesKept", "[J", true)
  | _ => ("TruthCordModel", "isKept", "[Z", true)
def tyX12 : Nat → FieldType := fun k => match k with
  | 0 => .int
  | 1 => .array .byte
  | 2 => .int
  | 3 => .int
  | 4 => .int
  | 5 => .int
  | 6 => .array .int
  | 7 => .array .int
  | 8 => .array .int
  | 9 => .array .long
  | 10 => .array .long
  | 11 => .int
  | 12 => .int
  | 13 => .int
  | 14 => .int
  | 15 => .int
  | 16 => .int
  | 17 => .long
  | 18 => .int
  | 19 => .int
  | 20 => .int
  | 21 => .int
  | 22 => .int
  | 23 => .array .int
  | 24 => .array .int
  | 25 => .array .int
  | 26 => .array .int
  | 27 => .int
  | 28 => .array .int
  | 29 => .array .int
  | 30 => .array .int
  | 31 => .array .int
  | 32 => .array .int
  | 33 => .array .int
  | 34 => .array .int
  | 35 => .array .int
  | 36 => .array .int
  | 37 => .array .int
  | 38 => .array .int
  | 39 => .array .int
  | 40 => .array .int
  | 41 => .array .int
  | 42 => .array .int
  | 43 => .int
  | 44 => .int
  | 45 => .int
  | 46 => .int
  | 47 => .array .int
  | 48 => .array .int
  | 49 => .array .int
  | 50 => .int
  | 51 => .array .int
  | 52 => .array .int
  | 53 => .int
  | 54 => .int
  | 55 => .int
  | 56 => .int
  | 57 => .array .int
  | 58 => .array .int
  | 59 => .array .int
  | 60 => .int
  | 61 => .array .int
  | 62 => .array .int
  | 63 => .array .int
  | 64 => .array .int
  | 65 => .array .boolean
  | 66 => .int
  | 67 => .int
  | 68 => .int
  | 69 => .array .int
  | 70 => .array .long
  | _ => .array .boolean
abbrev wsX120 : List Cond := u_ws RX12 TX12 72
theorem nmX12 : ∀ a, a < 72 → ∀ b, b < 72 → a ≠ b → (TX12 a).2.1 ≠ (TX12 b).2.1 := by decide +kernel
theorem tyX12_ok : ∀ k, k < 72 → parseFieldDescriptor (TX12 k).2.2.1 = some (tyX12 k) := by decide +kernel
abbrev cX12_thrown : ByteArray := prog_14_method_1_code
def yX12_thrown : MethodName := ⟨RX12, "thrown", "()I"⟩
abbrev cX12_throwsIf : ByteArray := prog_14_method_2_code
def yX12_throwsIf : MethodName := ⟨RX12, "throwsIf", "(Z)Z"⟩
abbrev cX12_feed : ByteArray := prog_14_method_3_code
def yX12_feed : MethodName := ⟨RX12, "feed", "(IIIII)I"⟩
abbrev cX12_four : ByteArray := prog_14_method_4_code
def yX12_four : MethodName := ⟨RX12, "four", "(I)V"⟩
abbrev cX12_end : ByteArray := prog_14_method_5_code
def yX12_end : MethodName := ⟨RX12, "end", "(I)Z"⟩
abbrev cX12_taken : ByteArray := prog_14_method_6_code
def yX12_taken : MethodName := ⟨RX12, "taken", "(I)V"⟩
abbrev cX12_isIn : ByteArray := prog_14_method_7_code
def yX12_isIn : MethodName := ⟨RX12, "isIn", "(III)Z"⟩
abbrev cX12_has : ByteArray := prog_14_method_8_code
def yX12_has : MethodName := ⟨RX12, "has", "(II)Z"⟩
abbrev cX12_many : ByteArray := prog_14_method_9_code
def yX12_many : MethodName := ⟨RX12, "many", "(I)I"⟩
abbrev cX12_up : ByteArray := prog_14_method_10_code
def yX12_up : MethodName := ⟨RX12, "up", "(II)I"⟩
abbrev cX12_octet : ByteArray := prog_14_method_11_code
def yX12_octet : MethodName := ⟨RX12, "octet", "(I)I"⟩
abbrev cX12_init : ByteArray := prog_14_method_12_code
def yX12_init : MethodName := ⟨RX12, "<init>", "()V"⟩
abbrev cX12_plainValley : ByteArray := prog_14_method_13_code
def yX12_plainValley : MethodName := ⟨RX12, "plainValley", "()V"⟩
abbrev cX12_peek : ByteArray := prog_14_method_14_code
def yX12_peek : MethodName := ⟨RX12, "peek", "()I"⟩
abbrev cX12_isSmall : ByteArray := prog_14_method_15_code
def yX12_isSmall : MethodName := ⟨RX12, "isSmall", "(I)Z"⟩
abbrev cX12_isDigit : ByteArray := prog_14_method_16_code
def yX12_isDigit : MethodName := ⟨RX12, "isDigit", "(I)Z"⟩
abbrev cX12_next : ByteArray := prog_14_method_17_code
def yX12_next : MethodName := ⟨RX12, "next", "()V"⟩
abbrev cX12_bad : ByteArray := prog_14_method_18_code
def yX12_bad : MethodName := ⟨RX12, "bad", "(I)Z"⟩
abbrev cX12_isWord : ByteArray := prog_14_method_19_code
def yX12_isWord : MethodName := ⟨RX12, "isWord", "(J)Z"⟩
abbrev cX12_isSign : ByteArray := prog_14_method_20_code
def yX12_isSign : MethodName := ⟨RX12, "isSign", "(I)Z"⟩
abbrev cX12_sign : ByteArray := prog_14_method_21_code
def yX12_sign : MethodName := ⟨RX12, "sign", "(I)Z"⟩
abbrev cX12_isName : ByteArray := prog_14_method_22_code
def yX12_isName : MethodName := ⟨RX12, "isName", "()Z"⟩
abbrev cX12_takes : ByteArray := prog_14_method_23_code
def yX12_takes : MethodName := ⟨RX12, "takes", "(II)Z"⟩
abbrev cX12_find : ByteArray := prog_14_method_24_code
def yX12_find : MethodName := ⟨RX12, "find", "(II)I"⟩
abbrev cX12_takesName : ByteArray := prog_14_method_25_code
def yX12_takesName : MethodName := ⟨RX12, "takesName", "(II)Z"⟩
abbrev cX12_fresh : ByteArray := prog_14_method_26_code
def yX12_fresh : MethodName := ⟨RX12, "fresh", "(I)Z"⟩
abbrev cX12_once : ByteArray := prog_14_method_27_code
def yX12_once : MethodName := ⟨RX12, "once", "(III)Z"⟩
abbrev cX12_valleyLine : ByteArray := prog_14_method_28_code
def yX12_valleyLine : MethodName := ⟨RX12, "valleyLine", "()Z"⟩
abbrev cX12_readFact : ByteArray := prog_14_method_29_code
def yX12_readFact : MethodName := ⟨RX12, "readFact", "()Z"⟩
abbrev cX12_readKnows : ByteArray := prog_14_method_30_code
def yX12_readKnows : MethodName := ⟨RX12, "readKnows", "()Z"⟩
abbrev cX12_readSince : ByteArray := prog_14_method_31_code
def yX12_readSince : MethodName := ⟨RX12, "readSince", "()Z"⟩
abbrev cX12_readAsks : ByteArray := prog_14_method_32_code
def yX12_readAsks : MethodName := ⟨RX12, "readAsks", "()Z"⟩
abbrev cX12_valley : ByteArray := prog_14_method_33_code
def yX12_valley : MethodName := ⟨RX12, "valley", "()I"⟩
abbrev cX12_fault : ByteArray := prog_14_method_34_code
def yX12_fault : MethodName := ⟨RX12, "fault", "()I"⟩
abbrev cX12_isWho : ByteArray := prog_14_method_35_code
def yX12_isWho : MethodName := ⟨RX12, "isWho", "(I)Z"⟩
abbrev cX12_isFact : ByteArray := prog_14_method_36_code
def yX12_isFact : MethodName := ⟨RX12, "isFact", "(I)Z"⟩
abbrev cX12_fact : ByteArray := prog_14_method_37_code
def yX12_fact : MethodName := ⟨RX12, "fact", "(II)I"⟩
abbrev cX12_bookLine : ByteArray := prog_14_method_38_code
def yX12_bookLine : MethodName := ⟨RX12, "bookLine", "()Z"⟩
abbrev cX12_put : ByteArray := prog_14_method_39_code
def yX12_put : MethodName := ⟨RX12, "put", "(IIIIII)V"⟩
abbrev cX12_withOrder : ByteArray := prog_14_method_40_code
def yX12_withOrder : MethodName := ⟨RX12, "withOrder", "(II)V"⟩
abbrev cX12_keepBook : ByteArray := prog_14_method_41_code
def yX12_keepBook : MethodName := ⟨RX12, "keepBook", "()V"⟩
abbrev cX12_book : ByteArray := prog_14_method_42_code
def yX12_book : MethodName := ⟨RX12, "book", "()I"⟩
abbrev cX12_draw : ByteArray := prog_14_method_43_code
def yX12_draw : MethodName := ⟨RX12, "draw", "(I)I"⟩
abbrev cX12_drawn : ByteArray := prog_14_method_44_code
def yX12_drawn : MethodName := ⟨RX12, "drawn", "(II)I"⟩
abbrev cX12_line : ByteArray := prog_14_method_45_code
def yX12_line : MethodName := ⟨RX12, "line", "(II)I"⟩
abbrev cX12_follows : ByteArray := prog_14_method_46_code
def yX12_follows : MethodName := ⟨RX12, "follows", "(I)I"⟩
abbrev cX12_begin : ByteArray := prog_14_method_47_code
def yX12_begin : MethodName := ⟨RX12, "begin", "()V"⟩
abbrev cX12_worthOf : ByteArray := prog_14_method_48_code
def yX12_worthOf : MethodName := ⟨RX12, "worthOf", "(II)I"⟩
abbrev cX12_owes : ByteArray := prog_14_method_49_code
def yX12_owes : MethodName := ⟨RX12, "owes", "(IIIII)V"⟩
abbrev cX12_learns : ByteArray := prog_14_method_50_code
def yX12_learns : MethodName := ⟨RX12, "learns", "(III)V"⟩
abbrev cX12_whyOf : ByteArray := prog_14_method_51_code
def yX12_whyOf : MethodName := ⟨RX12, "whyOf", "(IIIII)I"⟩
abbrev cX12_tells : ByteArray := prog_14_method_52_code
def yX12_tells : MethodName := ⟨RX12, "tells", "(IIII)V"⟩
abbrev cX12_does : ByteArray := prog_14_method_53_code
def yX12_does : MethodName := ⟨RX12, "does", "(I)I"⟩
abbrev cX12_run : ByteArray := prog_14_method_54_code
def yX12_run : MethodName := ⟨RX12, "run", "(I)V"⟩
abbrev cX12_owedAll : ByteArray := prog_14_method_55_code
def yX12_owedAll : MethodName := ⟨RX12, "owedAll", "()I"⟩
abbrev cX12_isLate : ByteArray := prog_14_method_56_code
def yX12_isLate : MethodName := ⟨RX12, "isLate", "(I)Z"⟩
abbrev cX12_knows : ByteArray := prog_14_method_57_code
def yX12_knows : MethodName := ⟨RX12, "knows", "(II)I"⟩
abbrev cX12_wrong : ByteArray := prog_14_method_58_code
def yX12_wrong : MethodName := ⟨RX12, "wrong", "(I)I"⟩
abbrev cX12_debts : ByteArray := prog_14_method_59_code
def yX12_debts : MethodName := ⟨RX12, "debts", "()I"⟩
abbrev cX12_debt : ByteArray := prog_14_method_60_code
def yX12_debt : MethodName := ⟨RX12, "debt", "(II)I"⟩
abbrev cX12_worth : ByteArray := prog_14_method_61_code
def yX12_worth : MethodName := ⟨RX12, "worth", "(II)I"⟩
abbrev cX12_cameOf : ByteArray := prog_14_method_62_code
def yX12_cameOf : MethodName := ⟨RX12, "cameOf", "(II)I"⟩
abbrev cX12_came : ByteArray := prog_14_method_63_code
def yX12_came : MethodName := ⟨RX12, "came", "(II)I"⟩
abbrev cX12_autumn : ByteArray := prog_14_method_64_code
def yX12_autumn : MethodName := ⟨RX12, "autumn", "(I)I"⟩
abbrev cX12_mayPay : ByteArray := prog_14_method_65_code
def yX12_mayPay : MethodName := ⟨RX12, "mayPay", "(II)Z"⟩
abbrev cX12_feasts : ByteArray := prog_14_method_66_code
def yX12_feasts : MethodName := ⟨RX12, "feasts", "()V"⟩
abbrev cX12_feast : ByteArray := prog_14_method_67_code
def yX12_feast : MethodName := ⟨RX12, "feast", "(I)I"⟩
abbrev cX12_feastAt : ByteArray := prog_14_method_68_code
def yX12_feastAt : MethodName := ⟨RX12, "feastAt", "(I)I"⟩
abbrev cX12_duesOf : ByteArray := prog_14_method_69_code
def yX12_duesOf : MethodName := ⟨RX12, "duesOf", "(I)V"⟩
abbrev cX12_canPay : ByteArray := prog_14_method_70_code
def yX12_canPay : MethodName := ⟨RX12, "canPay", "(II)Z"⟩
abbrev cX12_price : ByteArray := prog_14_method_71_code
def yX12_price : MethodName := ⟨RX12, "price", "(II)I"⟩
abbrev cX12_needed : ByteArray := prog_14_method_72_code
def yX12_needed : MethodName := ⟨RX12, "needed", "(IZ)Z"⟩
abbrev cX12_needs : ByteArray := prog_14_method_73_code
def yX12_needs : MethodName := ⟨RX12, "needs", "(II)I"⟩
abbrev cX12_buys : ByteArray := prog_14_method_74_code
def yX12_buys : MethodName := ⟨RX12, "buys", "(II)I"⟩
abbrev cX12_terms : ByteArray := prog_14_method_75_code
def yX12_terms : MethodName := ⟨RX12, "terms", "(I)I"⟩
abbrev cX12_source : ByteArray := prog_14_method_76_code
def yX12_source : MethodName := ⟨RX12, "source", "(II)I"⟩
abbrev cX12_led : ByteArray := prog_14_method_77_code
def yX12_led : MethodName := ⟨RX12, "led", "(II)I"⟩
abbrev cX12_order : ByteArray := prog_14_method_78_code
def yX12_order : MethodName := ⟨RX12, "order", "()I"⟩
abbrev cX12_orderAt : ByteArray := prog_14_method_79_code
def yX12_orderAt : MethodName := ⟨RX12, "orderAt", "(I)I"⟩
abbrev cX12_ripple : ByteArray := prog_14_method_80_code
def yX12_ripple : MethodName := ⟨RX12, "ripple", "(IIII)I"⟩
abbrev cX12_unsaid : ByteArray := prog_14_method_81_code
def yX12_unsaid : MethodName := ⟨RX12, "unsaid", "(I)I"⟩
abbrev cX12_lay : ByteArray := prog_14_method_82_code
def yX12_lay : MethodName := ⟨RX12, "lay", "(I)V"⟩
abbrev cX12_cord : ByteArray := prog_14_method_83_code
def yX12_cord : MethodName := ⟨RX12, "cord", "(II)I"⟩
abbrev cX12_takesCord : ByteArray := prog_14_method_84_code
def yX12_takesCord : MethodName := ⟨RX12, "takesCord", "()Z"⟩
abbrev cX12_readSeen : ByteArray := prog_14_method_85_code
def yX12_readSeen : MethodName := ⟨RX12, "readSeen", "()I"⟩
abbrev cX12_read : ByteArray := prog_14_method_86_code
def yX12_read : MethodName := ⟨RX12, "read", "()I"⟩
abbrev cX12_near : ByteArray := prog_14_method_87_code
def yX12_near : MethodName := ⟨RX12, "near", "(I)I"⟩
abbrev cX12_measure : ByteArray := prog_14_method_88_code
def yX12_measure : MethodName := ⟨RX12, "measure", "(I)V"⟩
abbrev cX12_measured : ByteArray := prog_14_method_89_code
def yX12_measured : MethodName := ⟨RX12, "measured", "(II)I"⟩
abbrev cX12_slips : ByteArray := prog_14_method_90_code
def yX12_slips : MethodName := ⟨RX12, "slips", "(III)I"⟩
abbrev cX12_write : ByteArray := prog_14_method_91_code
def yX12_write : MethodName := ⟨RX12, "write", "(III)V"⟩
abbrev cX12_writeDown : ByteArray := prog_14_method_92_code
def yX12_writeDown : MethodName := ⟨RX12, "writeDown", "(I)V"⟩
abbrev cX12_binds : ByteArray := prog_14_method_93_code
def yX12_binds : MethodName := ⟨RX12, "binds", "(I)I"⟩
abbrev cX12_opened : ByteArray := prog_14_method_94_code
def yX12_opened : MethodName := ⟨RX12, "opened", "()I"⟩
abbrev cX12_isOpen : ByteArray := prog_14_method_95_code
def yX12_isOpen : MethodName := ⟨RX12, "isOpen", "()Z"⟩
abbrev cX12_cond : ByteArray := prog_14_method_96_code
def yX12_cond : MethodName := ⟨RX12, "cond", "()Z"⟩
abbrev cX12_atom : ByteArray := prog_14_method_97_code
def yX12_atom : MethodName := ⟨RX12, "atom", "()I"⟩
abbrev cX12_one : ByteArray := prog_14_method_98_code
def yX12_one : MethodName := ⟨RX12, "one", "()Z"⟩
abbrev cX12_asks : ByteArray := prog_14_method_99_code
def yX12_asks : MethodName := ⟨RX12, "asks", "(I)Z"⟩
abbrev cX12_sentence : ByteArray := prog_14_method_100_code
def yX12_sentence : MethodName := ⟨RX12, "sentence", "()I"⟩
abbrev cX12_so : ByteArray := prog_14_method_101_code
def yX12_so : MethodName := ⟨RX12, "so", "(IIII)Z"⟩
abbrev cX12_isSaid : ByteArray := prog_14_method_102_code
def yX12_isSaid : MethodName := ⟨RX12, "isSaid", "(I)Z"⟩
abbrev cX12_said : ByteArray := prog_14_method_103_code
def yX12_said : MethodName := ⟨RX12, "said", "()I"⟩
abbrev cX12_image : ByteArray := prog_14_method_104_code
def yX12_image : MethodName := ⟨RX12, "image", "(I)Z"⟩
abbrev cX12_restore : ByteArray := prog_14_method_105_code
def yX12_restore : MethodName := ⟨RX12, "restore", "(I)Z"⟩
abbrev cX12_count : ByteArray := prog_14_method_106_code
def yX12_count : MethodName := ⟨RX12, "count", "(I)I"⟩
def RL : String := "TruthCordLaw"
abbrev cL_fact : ByteArray := method_3_code
def yL_fact : MethodName := ⟨RL, "fact", "(LTruthCord;II[J)I"⟩
abbrev cL_line : ByteArray := method_4_code
def yL_line : MethodName := ⟨RL, "line", "(LTruthCord;II[J)I"⟩
abbrev cL_debt : ByteArray := method_5_code
def yL_debt : MethodName := ⟨RL, "debt", "(LTruthCord;II[J)I"⟩
abbrev cL_came : ByteArray := method_6_code
def yL_came : MethodName := ⟨RL, "came", "(LTruthCord;II[J)I"⟩
abbrev cL_law : ByteArray := code
def yL_law : MethodName := ⟨RL, "law", "([I)Z"⟩
abbrev vwCl : List vw_C := [(RX0, TX0, 9), (RX1, TX1, 1), (RX2, TX2, 7), (RX3, TX3, 4), (RX4, TX4, 17), (RX5, TX5, 8), (RX6, TX6, 6), (RX7, TX7, 2), (RX8, TX8, 7), (RX9, TX9, 14), (RX10, TX10, 5), (RX11, TX11, 17), (RX12, TX12, 72)]
/-- the words that every method may ask for, and those of nest mates -/
def gt : List Cond := lw_tbl.filter goodWord
def zisN : Cond → Bool
  | .fieldLinkNest _ _ _ _ _ _ => true
  | .methodLinkNest _ _ _ _ => true
  | _ => false
def nw : List Cond := tables_1.filter zisN
theorem gt_in {w : Cond} (i : Nat) (h : lw_tbl[i]? = some w) (hg : goodWord w = true) : w ∈ gt := List.mem_filter.mpr ⟨List.mem_of_getElem? h, hg⟩
theorem gt_good : ∀ w ∈ gt, (w.onTables && w.keeps) = true ∨ ∃ ty, w = .arrayClass ty := fun w h => good_of_word (List.mem_filter.mp h).2
theorem gt_tbl : ∀ w ∈ gt, w ∈ lw_tbl := fun w h => (List.mem_filter.mp h).1
